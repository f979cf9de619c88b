/-! # functional level, 16: idle, send -/
section
variable {M M' M1 N : Mm} {o m : Nat} {S : St} {P W : TT}
/-- a writer can write nothing -/
def idl (P W : TT) (w : Nat) : Bool := alR (fun b => alR (fun r => !mw P W w b r) (P 0 0) 0) (P 0 2) 0
theorem C_mayAny {p : Nat} (hP : isP M p P) (oP : okP P) (hW : isW M o P W) (oW : okW P W) {w : Nat} (hw : w < P 0 5) : f_Wall_mayWriteAny o p (nI w) M = some (nI (if idl P W w = true then 0 else 1), M) := by
  have hR := oP.r
  have hB := oP.b
  have inner : ∀ (kb : Nat → Nat → Int32 → Int32 → Mm → Option (Int32 × Mm)) (b : Nat), b < P 0 2 → f_Wall_mayWriteAny_c kb FU o p (nI w) (nI b) (nI 0) M = if alR (fun r => !mw P W w b r) (P 0 0) 0 = true then kb o p (nI w) (nI (b + 1)) M else some (nI 1, M) := by
    intro kb b hb
    refine lp_al (fun f i => f_Wall_mayWriteAny_c kb f o p (nI w) (nI b) (nI i) M) (P 0 0) (fun r => !mw P W w b r) _ _ (fun f i hi hc => ?_) (fun f i hi hc => ?_) (fun f => ?_) FU (FU_lt (by omega))
    · rw [Bool.not_eq_true'] at hc
      simp (disch := omega) only [f_Wall_mayWriteAny_c, hP.r, C_mayWrite hP oP hW oW hw hb hi, hc, bI_s, bV_s, bL_s, bR_s, bG_s, bG_n, bX_l, bX_r, ck_nI, nI_clamp, nI_leT, nI_leF, nI_ltT, nI_ltF, nI_eqF, nI_add, pk_mul, ofN, bt_e, or0, Nat.zero_add, Nat.add_zero, ↓reduceIte, if_true, if_false, Bool.false_eq_true, eq_self, li0, li1, li2, li3, li4, li5, li6, li7, li8, li9, li10, li11, li12, li14, li15, li16, li18, li19, li20, li23, li24, li25, li26, li27, li30, li31, li32, li36, li40, li41, li42, li43, li44, li45, li47, li48, li57, li59, li60, li91, li93, li96, li97, li100, li105, li122, li150, li200, li255, li400, li500, li600, li999, li1000, li1001, li2000, li2001, li2002, li2003, li2004, li2005, li2006, li32767, li100000, li_neg, li13, li17, li21, li22, li28, li29, li33, li34, li35, li37, li38, li39, li46, li49, li50, li51, li52, li53, li63, li80, li115, li160]
    · rw [Bool.not_eq_false'] at hc
      simp (disch := omega) only [f_Wall_mayWriteAny_c, hP.r, C_mayWrite hP oP hW oW hw hb hi, hc, bI_s, bV_s, bL_s, bR_s, bG_s, bG_n, bX_l, bX_r, ck_nI, nI_clamp, nI_leT, nI_leF, nI_ltT, nI_ltF, nI_eqF, nI_add, pk_mul, ofN, bt_e, or0, Nat.zero_add, Nat.add_zero, ↓reduceIte, if_true, if_false, Bool.false_eq_true, eq_self, li0, li1, li2, li3, li4, li5, li6, li7, li8, li9, li10, li11, li12, li14, li15, li16, li18, li19, li20, li23, li24, li25, li26, li27, li30, li31, li32, li36, li40, li41, li42, li43, li44, li45, li47, li48, li57, li59, li60, li91, li93, li96, li97, li100, li105, li122, li150, li200, li255, li400, li500, li600, li999, li1000, li1001, li2000, li2001, li2002, li2003, li2004, li2005, li2006, li32767, li100000, li_neg, li13, li17, li21, li22, li28, li29, li33, li34, li35, li37, li38, li39, li46, li49, li50, li51, li52, li53, li63, li80, li115, li160]
    · simp (disch := omega) only [f_Wall_mayWriteAny_c, hP.r, bI_s, bV_s, bL_s, bR_s, bG_s, bG_n, bX_l, bX_r, ck_nI, nI_clamp, nI_leT, nI_leF, nI_ltT, nI_ltF, nI_eqF, nI_add, pk_mul, ofN, bt_e, or0, Nat.zero_add, Nat.add_zero, ↓reduceIte, if_true, if_false, Bool.false_eq_true, eq_self, li0, li1, li2, li3, li4, li5, li6, li7, li8, li9, li10, li11, li12, li14, li15, li16, li18, li19, li20, li23, li24, li25, li26, li27, li30, li31, li32, li36, li40, li41, li42, li43, li44, li45, li47, li48, li57, li59, li60, li91, li93, li96, li97, li100, li105, li122, li150, li200, li255, li400, li500, li600, li999, li1000, li1001, li2000, li2001, li2002, li2003, li2004, li2005, li2006, li32767, li100000, li_neg, li13, li17, li21, li22, li28, li29, li33, li34, li35, li37, li38, li39, li46, li49, li50, li51, li52, li53, li63, li80, li115, li160]
  have key := lp_al (fun f i => f_Wall_mayWriteAny_b f o p (nI w) (nI i) M) (P 0 2) (fun b => alR (fun r => !mw P W w b r) (P 0 0) 0) (some (nI 0, M)) (some (nI 1, M)) (fun f i hi hc => ?_) (fun f i hi hc => ?_) (fun f => ?_) FU (FU_lt (by omega))
  · refine Eq.trans key ?_
    show (if idl P W w = true then _ else _) = _
    cases idl P W w <;> rfl
  · simp (disch := omega) only [f_Wall_mayWriteAny_b, hP.b, inner, hc, bI_s, bV_s, bL_s, bR_s, bG_s, bG_n, bX_l, bX_r, ck_nI, nI_clamp, nI_leT, nI_leF, nI_ltT, nI_ltF, nI_eqF, nI_add, pk_mul, ofN, bt_e, or0, Nat.zero_add, Nat.add_zero, ↓reduceIte, if_true, if_false, Bool.false_eq_true, eq_self, li0, li1, li2, li3, li4, li5, li6, li7, li8, li9, li10, li11, li12, li14, li15, li16, li18, li19, li20, li23, li24, li25, li26, li27, li30, li31, li32, li36, li40, li41, li42, li43, li44, li45, li47, li48, li57, li59, li60, li91, li93, li96, li97, li100, li105, li122, li150, li200, li255, li400, li500, li600, li999, li1000, li1001, li2000, li2001, li2002, li2003, li2004, li2005, li2006, li32767, li100000, li_neg, li13, li17, li21, li22, li28, li29, li33, li34, li35, li37, li38, li39, li46, li49, li50, li51, li52, li53, li63, li80, li115, li160]
  · simp (disch := omega) only [f_Wall_mayWriteAny_b, hP.b, inner, hc, bI_s, bV_s, bL_s, bR_s, bG_s, bG_n, bX_l, bX_r, ck_nI, nI_clamp, nI_leT, nI_leF, nI_ltT, nI_ltF, nI_eqF, nI_add, pk_mul, ofN, bt_e, or0, Nat.zero_add, Nat.add_zero, ↓reduceIte, if_true, if_false, Bool.false_eq_true, eq_self, li0, li1, li2, li3, li4, li5, li6, li7, li8, li9, li10, li11, li12, li14, li15, li16, li18, li19, li20, li23, li24, li25, li26, li27, li30, li31, li32, li36, li40, li41, li42, li43, li44, li45, li47, li48, li57, li59, li60, li91, li93, li96, li97, li100, li105, li122, li150, li200, li255, li400, li500, li600, li999, li1000, li1001, li2000, li2001, li2002, li2003, li2004, li2005, li2006, li32767, li100000, li_neg, li13, li17, li21, li22, li28, li29, li33, li34, li35, li37, li38, li39, li46, li49, li50, li51, li52, li53, li63, li80, li115, li160]
  · simp (disch := omega) only [f_Wall_mayWriteAny_b, hP.b, bI_s, bV_s, bL_s, bR_s, bG_s, bG_n, bX_l, bX_r, ck_nI, nI_clamp, nI_leT, nI_leF, nI_ltT, nI_ltF, nI_eqF, nI_add, pk_mul, ofN, bt_e, or0, Nat.zero_add, Nat.add_zero, ↓reduceIte, if_true, if_false, Bool.false_eq_true, eq_self, li0, li1, li2, li3, li4, li5, li6, li7, li8, li9, li10, li11, li12, li14, li15, li16, li18, li19, li20, li23, li24, li25, li26, li27, li30, li31, li32, li36, li40, li41, li42, li43, li44, li45, li47, li48, li57, li59, li60, li91, li93, li96, li97, li100, li105, li122, li150, li200, li255, li400, li500, li600, li999, li1000, li1001, li2000, li2001, li2002, li2003, li2004, li2005, li2006, li32767, li100000, li_neg, li13, li17, li21, li22, li28, li29, li33, li34, li35, li37, li38, li39, li46, li49, li50, li51, li52, li53, li63, li80, li115, li160]
def iS (P W : TT) (w b r : Nat) (s : Int32) : Int32 := if mw P W w b r = true then s &&& (bt w ^^^ nI 4294967295) else s
theorem iS_hs {w b : Nat} {x : Int32} {k : Nat} (hk : k < 32) (hw : w < 32) : ∀ n : Nat, hs (fo n (iS P W w b) x) k = true ↔ hs x k = true ∧ (k = w → ∀ r, r < n → mw P W w b r = false) := by
  intro n
  refine Iff.trans (hs_foA (c := fun r => mw P W w b r) (g := fun _ => w) hk n (fun _ _ => hw)) ?_
  constructor
  · rintro ⟨h1, h2⟩
    refine ⟨h1, fun e r hr => ?_⟩
    cases hc : mw P W w b r with
    | false => rfl
    | true => exact absurd e.symm (h2 r hr hc)
  · rintro ⟨h1, h2⟩
    refine ⟨h1, fun r hr hc e => ?_⟩
    have := h2 e.symm r hr
    rw [hc] at this
    exact nomatch this
theorem iS_hs2 {w R : Nat} {x : Int32} {k : Nat} (hk : k < 32) (hw : w < 32) : ∀ n : Nat, hs (fo n (fun b s => fo R (iS P W w b) s) x) k = true ↔ hs x k = true ∧ (k = w → ∀ b, b < n → ∀ r, r < R → mw P W w b r = false)
  | 0 => ⟨fun h => ⟨h, fun _ b hb => by omega⟩, fun h => h.1⟩
  | n + 1 => by
    show hs (fo R (iS P W w n) (fo n (fun b s => fo R (iS P W w b) s) x)) k = true ↔ _
    rw [iS_hs hk hw, iS_hs2 hk hw n]
    constructor
    · rintro ⟨⟨h1, h2⟩, h3⟩
      refine ⟨h1, fun e b hb r hr => ?_⟩
      rcases Nat.lt_or_ge b n with h4 | h4
      · exact h2 e b h4 r hr
      · obtain rfl : b = n := by omega
        exact h3 e r hr
    · rintro ⟨h1, h2⟩
      exact ⟨⟨h1, fun e b hb r hr => h2 e b (by omega) r hr⟩, fun e r hr => h2 e n (by omega) r hr⟩
theorem iS_hs3 {B R : Nat} {x : Int32} {k : Nat} (hk : k < 32) : ∀ n : Nat, n ≤ 32 → (hs (fo n (fun w s => fo B (fun b s => fo R (iS P W w b) s) s) x) k = true ↔ hs x k = true ∧ (k < n → ∀ b, b < B → ∀ r, r < R → mw P W k b r = false))
  | 0 => fun _ => ⟨fun h => ⟨h, fun hb => by omega⟩, fun h => h.1⟩
  | n + 1 => fun hn => by
    show hs (fo B (fun b s => fo R (iS P W n b) s) (fo n (fun w s => fo B (fun b s => fo R (iS P W w b) s) s) x)) k = true ↔ _
    rw [iS_hs2 hk (by omega), iS_hs3 hk n (by omega)]
    constructor
    · rintro ⟨⟨h1, h2⟩, h3⟩
      refine ⟨h1, fun e b hb r hr => ?_⟩
      rcases Nat.lt_or_ge k n with h4 | h4
      · exact h2 h4 b hb r hr
      · obtain rfl : k = n := by omega
        exact h3 rfl b hb r hr
    · rintro ⟨h1, h2⟩
      refine ⟨⟨h1, fun e b hb r hr => h2 (by omega) b hb r hr⟩, fun e b hb r hr => ?_⟩
      subst e
      exact h2 (by omega) b hb r hr
theorem A_idle (h : InvS o M S) : Ag0 o (f_C_idle o M) (fun M1 => f_M_idle (o + 61) M1) := by
  obtain ⟨p, l, d, hr, ⟨hP, hW⟩, ⟨⟨t1, t2⟩, t3, ⟨t4, t5, t6⟩, t7, t8⟩, ⟨hL, hD⟩, oP, oW⟩ := h.u
  have hr10 := hr.2.1.1
  have hr12 := hr.2.2.1.1
  have hr14 := hr.2.2.2.1
  have hRb := oP.r
  have hBb := oP.b
  have hWb := oP.w
  have hLb := oW.l
  refine ag0R0 h (v := fo (S.1 0 5) (fun w s => if idl S.1 S.2.1 w = true then s ||| bt w else s) (nI 0)) ?_ (fun M1 hm => ?_)
  · have key := lp_up (fun u i s => f_C_idle_b u o s (nI i) M) (S.1 0 5) (fun w s => if idl S.1 S.2.1 w = true then s ||| bt w else s) (some (fo (S.1 0 5) (fun w s => if idl S.1 S.2.1 w = true then s ||| bt w else s) (nI 0), M)) (nI 0) (fun u i s hi => ?_) (fun u => ?_) FU (FU_lt (by omega))
    · exact key
    · by_cases c : idl S.1 S.2.1 i = true
      · simp (disch := omega) only [f_C_idle_b, hr10, hP.w, C_mayAny hP oP hW oW hi, c, bI_s, bV_s, bL_s, bR_s, bG_s, bG_n, bX_l, bX_r, ck_nI, nI_clamp, nI_leT, nI_leF, nI_ltT, nI_ltF, nI_eqF, nI_add, pk_mul, ofN, bt_e, or0, Nat.zero_add, Nat.add_zero, ↓reduceIte, if_true, if_false, Bool.false_eq_true, eq_self, li0, li1, li2, li3, li4, li5, li6, li7, li8, li9, li10, li11, li12, li14, li15, li16, li18, li19, li20, li23, li24, li25, li26, li27, li30, li31, li32, li36, li40, li41, li42, li43, li44, li45, li47, li48, li57, li59, li60, li91, li93, li96, li97, li100, li105, li122, li150, li200, li255, li400, li500, li600, li999, li1000, li1001, li2000, li2001, li2002, li2003, li2004, li2005, li2006, li32767, li100000, li_neg, li13, li17, li21, li22, li28, li29, li33, li34, li35, li37, li38, li39, li46, li49, li50, li51, li52, li53, li63, li80, li115, li160]
      · simp (disch := omega) only [f_C_idle_b, hr10, hP.w, C_mayAny hP oP hW oW hi, c, bI_s, bV_s, bL_s, bR_s, bG_s, bG_n, bX_l, bX_r, ck_nI, nI_clamp, nI_leT, nI_leF, nI_ltT, nI_ltF, nI_eqF, nI_add, pk_mul, ofN, bt_e, or0, Nat.zero_add, Nat.add_zero, ↓reduceIte, if_true, if_false, Bool.false_eq_true, eq_self, li0, li1, li2, li3, li4, li5, li6, li7, li8, li9, li10, li11, li12, li14, li15, li16, li18, li19, li20, li23, li24, li25, li26, li27, li30, li31, li32, li36, li40, li41, li42, li43, li44, li45, li47, li48, li57, li59, li60, li91, li93, li96, li97, li100, li105, li122, li150, li200, li255, li400, li500, li600, li999, li1000, li1001, li2000, li2001, li2002, li2003, li2004, li2005, li2006, li32767, li100000, li_neg, li13, li17, li21, li22, li28, li29, li33, li34, li35, li37, li38, li39, li46, li49, li50, li51, li52, li53, li63, li80, li115, li160]
    · simp (disch := omega) only [f_C_idle_b, hr10, hP.w, bI_s, bV_s, bL_s, bR_s, bG_s, bG_n, bX_l, bX_r, ck_nI, nI_clamp, nI_leT, nI_leF, nI_ltT, nI_ltF, nI_eqF, nI_add, pk_mul, ofN, bt_e, or0, Nat.zero_add, Nat.add_zero, ↓reduceIte, if_true, if_false, Bool.false_eq_true, eq_self, li0, li1, li2, li3, li4, li5, li6, li7, li8, li9, li10, li11, li12, li14, li15, li16, li18, li19, li20, li23, li24, li25, li26, li27, li30, li31, li32, li36, li40, li41, li42, li43, li44, li45, li47, li48, li57, li59, li60, li91, li93, li96, li97, li100, li105, li122, li150, li200, li255, li400, li500, li600, li999, li1000, li1001, li2000, li2001, li2002, li2003, li2004, li2005, li2006, li32767, li100000, li_neg, li13, li17, li21, li22, li28, li29, li33, li34, li35, li37, li38, li39, li46, li49, li50, li51, li52, li53, li63, li80, li115, li160]
  · have e : fo (S.1 0 5) (fun w s => if idl S.1 S.2.1 w = true then s ||| bt w else s) (nI 0) = fo (S.1 0 5) (fun w s => fo (S.1 0 2) (fun b s => fo (S.1 0 0) (iS S.1 S.2.1 w b) s) s) (bt (S.1 0 5) - nI 1) := by
      refine hs_ext (fun k hk => ?_)
      rw [Bool.eq_iff_iff, iS_hs3 hk _ (by omega), hs_low (by omega) hk, decide_eq_true_eq]
      refine Iff.trans (hs_fo (c := fun w => idl S.1 S.2.1 w) (g := fun b => b) hk _ (fun i hi => by omega)) ?_
      constructor
      · rintro ⟨i, h1, h2, rfl⟩
        refine ⟨h1, fun _ b hb r hr => ?_⟩
        have := (alR_iff _ _).mp ((alR_iff _ _).mp h2 b (by omega) (by omega)) r (by omega) (by omega)
        rw [Bool.not_eq_true'] at this
        exact this
      · rintro ⟨h1, h2⟩
        refine ⟨k, h1, (alR_iff _ _).mpr (fun b _ hb => (alR_iff _ _).mpr (fun r _ hr => ?_)), rfl⟩
        rw [Bool.not_eq_true']
        exact h2 h1 b (by omega) r (by omega)
    rw [e]
    have in1 : ∀ (kb : Nat → Int32 → Int32 → Mm → Option (Int32 × Mm)) (kc : Nat → Int32 → Int32 → Int32 → Mm → Option (Int32 × Mm)) (w b : Nat) (s : Int32), w < S.1 0 5 → b < S.1 0 2 → f_M_idle_d kb kc FU (o + 61) s (nI w) (nI b) (nI 0) (sI M1 (o + 61) 0 (nI 0)) = kc (o + 61) (fo (S.1 0 0) (iS S.1 S.2.1 w b) s) (nI w) (nI (b + 1)) (sI M1 (o + 61) 0 (nI 0)) := by
      intro kb kc w b s hw hb
      refine lp_up (fun f i s => f_M_idle_d kb kc f (o + 61) s (nI w) (nI b) (nI i) (sI M1 (o + 61) 0 (nI 0))) (S.1 0 0) (iS S.1 S.2.1 w b) _ s (fun f i s hi => ?_) (fun f => ?_) FU (FU_lt (by omega))
      · unfold iS
        by_cases c : mw S.1 S.2.1 w b i = true
        · simp (disch := omega) only [f_M_idle_d, hm.1.1.r, M_canWrite hm.1.1 oP hm.1.2 oW hw hb hi, c, bI_s, bV_s, bL_s, bR_s, bG_s, bG_n, bX_l, bX_r, ck_nI, nI_clamp, nI_leT, nI_leF, nI_ltT, nI_ltF, nI_eqF, nI_add, pk_mul, ofN, bt_e, or0, Nat.zero_add, Nat.add_zero, ↓reduceIte, if_true, if_false, Bool.false_eq_true, eq_self, li0, li1, li2, li3, li4, li5, li6, li7, li8, li9, li10, li11, li12, li14, li15, li16, li18, li19, li20, li23, li24, li25, li26, li27, li30, li31, li32, li36, li40, li41, li42, li43, li44, li45, li47, li48, li57, li59, li60, li91, li93, li96, li97, li100, li105, li122, li150, li200, li255, li400, li500, li600, li999, li1000, li1001, li2000, li2001, li2002, li2003, li2004, li2005, li2006, li32767, li100000, li_neg, li13, li17, li21, li22, li28, li29, li33, li34, li35, li37, li38, li39, li46, li49, li50, li51, li52, li53, li63, li80, li115, li160]
        · simp (disch := omega) only [f_M_idle_d, hm.1.1.r, M_canWrite hm.1.1 oP hm.1.2 oW hw hb hi, c, Int32.and_self, bI_s, bV_s, bL_s, bR_s, bG_s, bG_n, bX_l, bX_r, ck_nI, nI_clamp, nI_leT, nI_leF, nI_ltT, nI_ltF, nI_eqF, nI_add, pk_mul, ofN, bt_e, or0, Nat.zero_add, Nat.add_zero, ↓reduceIte, if_true, if_false, Bool.false_eq_true, eq_self, li0, li1, li2, li3, li4, li5, li6, li7, li8, li9, li10, li11, li12, li14, li15, li16, li18, li19, li20, li23, li24, li25, li26, li27, li30, li31, li32, li36, li40, li41, li42, li43, li44, li45, li47, li48, li57, li59, li60, li91, li93, li96, li97, li100, li105, li122, li150, li200, li255, li400, li500, li600, li999, li1000, li1001, li2000, li2001, li2002, li2003, li2004, li2005, li2006, li32767, li100000, li_neg, li13, li17, li21, li22, li28, li29, li33, li34, li35, li37, li38, li39, li46, li49, li50, li51, li52, li53, li63, li80, li115, li160]
      · simp (disch := omega) only [f_M_idle_d, hm.1.1.r, bI_s, bV_s, bL_s, bR_s, bG_s, bG_n, bX_l, bX_r, ck_nI, nI_clamp, nI_leT, nI_leF, nI_ltT, nI_ltF, nI_eqF, nI_add, pk_mul, ofN, bt_e, or0, Nat.zero_add, Nat.add_zero, ↓reduceIte, if_true, if_false, Bool.false_eq_true, eq_self, li0, li1, li2, li3, li4, li5, li6, li7, li8, li9, li10, li11, li12, li14, li15, li16, li18, li19, li20, li23, li24, li25, li26, li27, li30, li31, li32, li36, li40, li41, li42, li43, li44, li45, li47, li48, li57, li59, li60, li91, li93, li96, li97, li100, li105, li122, li150, li200, li255, li400, li500, li600, li999, li1000, li1001, li2000, li2001, li2002, li2003, li2004, li2005, li2006, li32767, li100000, li_neg, li13, li17, li21, li22, li28, li29, li33, li34, li35, li37, li38, li39, li46, li49, li50, li51, li52, li53, li63, li80, li115, li160]
    have in2 : ∀ (kb : Nat → Int32 → Int32 → Mm → Option (Int32 × Mm)) (w : Nat) (s : Int32), w < S.1 0 5 → f_M_idle_c kb FU (o + 61) s (nI w) (nI 0) (sI M1 (o + 61) 0 (nI 0)) = kb (o + 61) (fo (S.1 0 2) (fun b s => fo (S.1 0 0) (iS S.1 S.2.1 w b) s) s) (nI (w + 1)) (sI M1 (o + 61) 0 (nI 0)) := by
      intro kb w s hw
      refine lp_up (fun f i s => f_M_idle_c kb f (o + 61) s (nI w) (nI i) (sI M1 (o + 61) 0 (nI 0))) (S.1 0 2) (fun b s => fo (S.1 0 0) (iS S.1 S.2.1 w b) s) _ s (fun f i s hi => ?_) (fun f => ?_) FU (FU_lt (by omega))
      · simp (disch := omega) only [f_M_idle_c, hm.1.1.b, in1, bI_s, bV_s, bL_s, bR_s, bG_s, bG_n, bX_l, bX_r, ck_nI, nI_clamp, nI_leT, nI_leF, nI_ltT, nI_ltF, nI_eqF, nI_add, pk_mul, ofN, bt_e, or0, Nat.zero_add, Nat.add_zero, ↓reduceIte, if_true, if_false, Bool.false_eq_true, eq_self, li0, li1, li2, li3, li4, li5, li6, li7, li8, li9, li10, li11, li12, li14, li15, li16, li18, li19, li20, li23, li24, li25, li26, li27, li30, li31, li32, li36, li40, li41, li42, li43, li44, li45, li47, li48, li57, li59, li60, li91, li93, li96, li97, li100, li105, li122, li150, li200, li255, li400, li500, li600, li999, li1000, li1001, li2000, li2001, li2002, li2003, li2004, li2005, li2006, li32767, li100000, li_neg, li13, li17, li21, li22, li28, li29, li33, li34, li35, li37, li38, li39, li46, li49, li50, li51, li52, li53, li63, li80, li115, li160]
      · simp (disch := omega) only [f_M_idle_c, hm.1.1.b, bI_s, bV_s, bL_s, bR_s, bG_s, bG_n, bX_l, bX_r, ck_nI, nI_clamp, nI_leT, nI_leF, nI_ltT, nI_ltF, nI_eqF, nI_add, pk_mul, ofN, bt_e, or0, Nat.zero_add, Nat.add_zero, ↓reduceIte, if_true, if_false, Bool.false_eq_true, eq_self, li0, li1, li2, li3, li4, li5, li6, li7, li8, li9, li10, li11, li12, li14, li15, li16, li18, li19, li20, li23, li24, li25, li26, li27, li30, li31, li32, li36, li40, li41, li42, li43, li44, li45, li47, li48, li57, li59, li60, li91, li93, li96, li97, li100, li105, li122, li150, li200, li255, li400, li500, li600, li999, li1000, li1001, li2000, li2001, li2002, li2003, li2004, li2005, li2006, li32767, li100000, li_neg, li13, li17, li21, li22, li28, li29, li33, li34, li35, li37, li38, li39, li46, li49, li50, li51, li52, li53, li63, li80, li115, li160]
    have key := lp_up (fun u i s => f_M_idle_b u (o + 61) s (nI i) (sI M1 (o + 61) 0 (nI 0))) (S.1 0 5) (fun w s => fo (S.1 0 2) (fun b s => fo (S.1 0 0) (iS S.1 S.2.1 w b) s) s) (some (fo (S.1 0 5) (fun w s => fo (S.1 0 2) (fun b s => fo (S.1 0 0) (iS S.1 S.2.1 w b) s) s) (bt (S.1 0 5) - nI 1), sI M1 (o + 61) 0 (nI 0))) (bt (S.1 0 5) - nI 1) (fun u i s hi => ?_) (fun u => ?_) FU (FU_lt (by omega))
    · simp (disch := omega) only [f_M_idle, hm.1.1.w, bI_s, bV_s, bL_s, bR_s, bG_s, bG_n, bX_l, bX_r, ck_nI, nI_clamp, nI_leT, nI_leF, nI_ltT, nI_ltF, nI_eqF, nI_add, pk_mul, ofN, bt_e, or0, Nat.zero_add, Nat.add_zero, ↓reduceIte, if_true, if_false, Bool.false_eq_true, eq_self, li0, li1, li2, li3, li4, li5, li6, li7, li8, li9, li10, li11, li12, li14, li15, li16, li18, li19, li20, li23, li24, li25, li26, li27, li30, li31, li32, li36, li40, li41, li42, li43, li44, li45, li47, li48, li57, li59, li60, li91, li93, li96, li97, li100, li105, li122, li150, li200, li255, li400, li500, li600, li999, li1000, li1001, li2000, li2001, li2002, li2003, li2004, li2005, li2006, li32767, li100000, li_neg, li13, li17, li21, li22, li28, li29, li33, li34, li35, li37, li38, li39, li46, li49, li50, li51, li52, li53, li63, li80, li115, li160]
      exact key
    · simp (disch := omega) only [f_M_idle_b, hm.1.1.w, in2, bI_s, bV_s, bL_s, bR_s, bG_s, bG_n, bX_l, bX_r, ck_nI, nI_clamp, nI_leT, nI_leF, nI_ltT, nI_ltF, nI_eqF, nI_add, pk_mul, ofN, bt_e, or0, Nat.zero_add, Nat.add_zero, ↓reduceIte, if_true, if_false, Bool.false_eq_true, eq_self, li0, li1, li2, li3, li4, li5, li6, li7, li8, li9, li10, li11, li12, li14, li15, li16, li18, li19, li20, li23, li24, li25, li26, li27, li30, li31, li32, li36, li40, li41, li42, li43, li44, li45, li47, li48, li57, li59, li60, li91, li93, li96, li97, li100, li105, li122, li150, li200, li255, li400, li500, li600, li999, li1000, li1001, li2000, li2001, li2002, li2003, li2004, li2005, li2006, li32767, li100000, li_neg, li13, li17, li21, li22, li28, li29, li33, li34, li35, li37, li38, li39, li46, li49, li50, li51, li52, li53, li63, li80, li115, li160]
    · simp (disch := omega) only [f_M_idle_b, hm.1.1.w, bI_s, bV_s, bL_s, bR_s, bG_s, bG_n, bX_l, bX_r, ck_nI, nI_clamp, nI_leT, nI_leF, nI_ltT, nI_ltF, nI_eqF, nI_add, pk_mul, ofN, bt_e, or0, Nat.zero_add, Nat.add_zero, ↓reduceIte, if_true, if_false, Bool.false_eq_true, eq_self, li0, li1, li2, li3, li4, li5, li6, li7, li8, li9, li10, li11, li12, li14, li15, li16, li18, li19, li20, li23, li24, li25, li26, li27, li30, li31, li32, li36, li40, li41, li42, li43, li44, li45, li47, li48, li57, li59, li60, li91, li93, li96, li97, li100, li105, li122, li150, li200, li255, li400, li500, li600, li999, li1000, li1001, li2000, li2001, li2002, li2003, li2004, li2005, li2006, li32767, li100000, li_neg, li13, li17, li21, li22, li28, li29, li33, li34, li35, li37, li38, li39, li46, li49, li50, li51, li52, li53, li63, li80, li115, li160]
/-! send -/
def pc (g : Nat) : Nat := sm 8 (fun k => if hs (nI g) k = true then 1 else 0)
theorem J_bc {g : Nat} (h : g < 256) : f_J_bitCount (nI g) M = some (nI (pc g), M) := by
  unfold f_J_bitCount
  refine congrArg (fun z => some (z, M)) ?_
  revert g
  decide +kernel
theorem pc_le (g : Nat) : pc g ≤ 8 := by
  have : pc g ≤ sm 8 (fun _ => 1) := sm_le _ (fun j hj => by split <;> omega)
  rw [sm_const] at this; omega
theorem M_ones {g : Nat} : f_M_ones (nI g) M = some (nI (pc g), M) := by
  refine lp_up (fun u i s => f_M_ones_b u (nI g) (nI s) (nI i) M) 8 (fun k s => s + if hs (nI g) k = true then 1 else 0) _ 0 (fun u i s hi => ?_) (fun u => ?_) FU (FU_lt (by omega))
  · have e : (nI g >>> (nI i &&& nI 31)) &&& nI 1 = nI (if hs (nI g) i = true then 1 else 0) := by
      by_cases c : hs (nI g) i = true
      · rw [if_pos c]; exact of_decide_eq_true c
      · rw [if_neg c]
        have c' : hs (nI g) i = false := by simpa using c
        refine hs_ext (fun k hk => ?_)
        rw [hs_and hk, hs_0 hk, hs_nI (by omega) hk]
        by_cases c0 : k = 0
        · subst c0
          have : hs (nI g >>> (nI i &&& nI 31)) 0 = false := by rw [hs_shr (by omega)]; exact c'
          rw [this, Bool.false_and]
        · have : Nat.testBit 1 k = false := Nat.testBit_lt_two_pow (by
            have : 2 ^ 1 ≤ 2 ^ k := Nat.pow_le_pow_right (by omega) (by omega)
            omega)
          rw [this, Bool.and_false]
    simp (disch := omega) only [f_M_ones_b, e, bI_s, bV_s, bL_s, bR_s, bG_s, bG_n, bX_l, bX_r, ck_nI, nI_clamp, nI_leT, nI_leF, nI_ltT, nI_ltF, nI_eqF, nI_add, pk_mul, ofN, bt_e, or0, Nat.zero_add, Nat.add_zero, ↓reduceIte, if_true, if_false, Bool.false_eq_true, eq_self, li0, li1, li2, li3, li4, li5, li6, li7, li8, li9, li10, li11, li12, li14, li15, li16, li18, li19, li20, li23, li24, li25, li26, li27, li30, li31, li32, li36, li40, li41, li42, li43, li44, li45, li47, li48, li57, li59, li60, li91, li93, li96, li97, li100, li105, li122, li150, li200, li255, li400, li500, li600, li999, li1000, li1001, li2000, li2001, li2002, li2003, li2004, li2005, li2006, li32767, li100000, li_neg, li13, li17, li21, li22, li28, li29, li33, li34, li35, li37, li38, li39, li46, li49, li50, li51, li52, li53, li63, li80, li115, li160]
  · simp (disch := omega) only [f_M_ones_b, bI_s, bV_s, bL_s, bR_s, bG_s, bG_n, bX_l, bX_r, ck_nI, nI_clamp, nI_leT, nI_leF, nI_ltT, nI_ltF, nI_eqF, nI_add, pk_mul, ofN, bt_e, or0, Nat.zero_add, Nat.add_zero, ↓reduceIte, if_true, if_false, Bool.false_eq_true, eq_self, li0, li1, li2, li3, li4, li5, li6, li7, li8, li9, li10, li11, li12, li14, li15, li16, li18, li19, li20, li23, li24, li25, li26, li27, li30, li31, li32, li36, li40, li41, li42, li43, li44, li45, li47, li48, li57, li59, li60, li91, li93, li96, li97, li100, li105, li122, li150, li200, li255, li400, li500, li600, li999, li1000, li1001, li2000, li2001, li2002, li2003, li2004, li2005, li2006, li32767, li100000, li_neg, li13, li17, li21, li22, li28, li29, li33, li34, li35, li37, li38, li39, li46, li49, li50, li51, li52, li53, li63, li80, li115, li160]
    rw [fo_sm _ (fun k s _ => rfl)]; rfl
/-- a group knows all of q -/
def gok (P : TT) (q g : Nat) : Bool := decide (kb P (nI g) &&& nI q = nI q)
theorem gok_m {q g : Nat} : (nI q &&& (kb P (nI g) ^^^ nI 4294967295)) = nI 0 ↔ gok P q g = true := by
  unfold gok
  rw [decide_eq_true_eq]
  constructor
  · intro e
    refine hs_ext (fun k hk => ?_)
    have h0 := congrArg (fun z => hs z k) e
    rw [hs_and hk, hs_xor hk, hs_m1 hk, hs_0 hk] at h0
    rw [hs_and hk]
    revert h0
    cases hs (nI q) k <;> cases hs (kb P (nI g)) k <;> decide
  · intro e
    refine hs_ext (fun k hk => ?_)
    have h0 := congrArg (fun z => hs z k) e
    rw [hs_and hk] at h0
    rw [hs_and hk, hs_xor hk, hs_m1 hk, hs_0 hk]
    revert h0
    cases hs (nI q) k <;> cases hs (kb P (nI g)) k <;> decide
/-- r is the best of the groups from a on, below b -/
def bstG (P : TT) (q a b r : Nat) : Prop := (r = 4294967295 ∧ ∀ g, a ≤ g → g < b → gok P q g = false) ∨ ((a ≤ r ∧ r < b ∧ gok P q r = true) ∧ ∀ g, a ≤ g → g < b → gok P q g = true → pc r < pc g ∨ (pc r = pc g ∧ r ≤ g))
theorem bstG_u {q a b r r' : Nat} (hb : b < 1000) (h : bstG P q a b r) (h' : bstG P q a b r') : r = r' := by
  rcases h with ⟨e, h1⟩ | ⟨⟨h1, h2, h3⟩, h4⟩
  · rcases h' with ⟨e', _⟩ | ⟨⟨k1, k2, k3⟩, _⟩
    · omega
    · have := h1 r' k1 k2; rw [k3] at this; exact nomatch this
  · rcases h' with ⟨e', k1⟩ | ⟨⟨k1, k2, k3⟩, k4⟩
    · have := k1 r h1 h2; rw [h3] at this; exact nomatch this
    · have := h4 r' k1 k2 k3
      have := k4 r h1 h2 h3
      omega
theorem C_send {p : Nat} (hr : gR M o 10 = some p) (hP : isP M p P) (oP : okP P) {q : Nat} : ∃ r, f_C_send_b FU o (nI q) (nI 4294967295) (nI 0) M = some (Sum.inl (nI r, M)) ∧ bstG P q 0 (2 ^ P 0 5) r := by
  have hw := oP.w
  have h64 : 2 ^ P 0 5 ≤ 2 ^ 6 := Nat.pow_le_pow_right (by omega) hw
  have key := lp_inv (R := (Int32 × Mm) ⊕ (Nat × Mm)) (fun u i (s : Nat) => f_C_send_b u o (nI q) (nI s) (nI i) M) (2 ^ P 0 5) (fun i s => bstG P q 0 i s) (fun x => ∃ r, x = Sum.inl (nI r, M) ∧ bstG P q 0 (2 ^ P 0 5) r) (fun u i s hi hI => ?_) (fun u s hI => ?_) 0 (Nat.zero_le _) 4294967295 (Or.inl ⟨rfl, fun g h1 h2 => by omega⟩) FU (FU_lt (by omega))
  · obtain ⟨x, e, r, e1, e2⟩ := key
    exact ⟨r, by rw [e, e1], e2⟩
  · refine Or.inl ?_
    have hs32 : s < 2 ^ 32 ∧ (s = 4294967295 ∨ s < 64) := by
      rcases hI with ⟨e, _⟩ | ⟨⟨_, h2, _⟩, _⟩ <;> omega
    by_cases cg : gok P q i = true
    · have cg' := of_decide_eq_true cg
      by_cases c : s = 4294967295
      · subst c
        refine ⟨i, ?_, Or.inr ⟨⟨by omega, by omega, cg⟩, fun g h1 h2 h3 => ?_⟩⟩
        · simp (disch := omega) only [f_C_send_b, f_C_send_c, hr, hP.w, bt_nI, C_knownTo hP oP, cg', bI_s, bV_s, bL_s, bR_s, bG_s, bG_n, bX_l, bX_r, ck_nI, nI_clamp, nI_leT, nI_leF, nI_ltT, nI_ltF, nI_eqF, nI_add, pk_mul, ofN, bt_e, or0, Nat.zero_add, Nat.add_zero, ↓reduceIte, if_true, if_false, Bool.false_eq_true, eq_self, li0, li1, li2, li3, li4, li5, li6, li7, li8, li9, li10, li11, li12, li14, li15, li16, li18, li19, li20, li23, li24, li25, li26, li27, li30, li31, li32, li36, li40, li41, li42, li43, li44, li45, li47, li48, li57, li59, li60, li91, li93, li96, li97, li100, li105, li122, li150, li200, li255, li400, li500, li600, li999, li1000, li1001, li2000, li2001, li2002, li2003, li2004, li2005, li2006, li32767, li100000, li_neg, li13, li17, li21, li22, li28, li29, li33, li34, li35, li37, li38, li39, li46, li49, li50, li51, li52, li53, li63, li80, li115, li160]
        · rcases Nat.lt_or_ge g i with h4 | h4
          · rcases hI with ⟨_, h5⟩ | ⟨⟨_, h5, _⟩, _⟩
            · have := h5 g h1 h4; rw [h3] at this; exact nomatch this
            · omega
          · obtain rfl : g = i := by omega
            exact Or.inr ⟨rfl, Nat.le_refl _⟩
      · rcases hI with ⟨e, _⟩ | ⟨⟨k1, k2, k3⟩, k4⟩
        · exact absurd e c
        · have q1 := pc_le i
          have q2 := pc_le s
          by_cases c2 : pc i < pc s
          · refine ⟨i, ?_, Or.inr ⟨⟨by omega, by omega, cg⟩, fun g h1 h2 h3 => ?_⟩⟩
            · simp (disch := omega) only [f_C_send_b, f_C_send_c, hr, hP.w, bt_nI, J_bc, C_knownTo hP oP, cg', bI_s, bV_s, bL_s, bR_s, bG_s, bG_n, bX_l, bX_r, ck_nI, nI_clamp, nI_leT, nI_leF, nI_ltT, nI_ltF, nI_eqF, nI_add, pk_mul, ofN, bt_e, or0, Nat.zero_add, Nat.add_zero, ↓reduceIte, if_true, if_false, Bool.false_eq_true, eq_self, li0, li1, li2, li3, li4, li5, li6, li7, li8, li9, li10, li11, li12, li14, li15, li16, li18, li19, li20, li23, li24, li25, li26, li27, li30, li31, li32, li36, li40, li41, li42, li43, li44, li45, li47, li48, li57, li59, li60, li91, li93, li96, li97, li100, li105, li122, li150, li200, li255, li400, li500, li600, li999, li1000, li1001, li2000, li2001, li2002, li2003, li2004, li2005, li2006, li32767, li100000, li_neg, li13, li17, li21, li22, li28, li29, li33, li34, li35, li37, li38, li39, li46, li49, li50, li51, li52, li53, li63, li80, li115, li160]
            · rcases Nat.lt_or_ge g i with h4 | h4
              · have := k4 g h1 h4 h3; omega
              · obtain rfl : g = i := by omega
                exact Or.inr ⟨rfl, Nat.le_refl _⟩
          · refine ⟨s, ?_, Or.inr ⟨⟨by omega, by omega, k3⟩, fun g h1 h2 h3 => ?_⟩⟩
            · simp (disch := omega) only [f_C_send_b, f_C_send_c, hr, hP.w, bt_nI, J_bc, bI_s, bV_s, bL_s, bR_s, bG_s, bG_n, bX_l, bX_r, ck_nI, nI_clamp, nI_leT, nI_leF, nI_ltT, nI_ltF, nI_eqF, nI_add, pk_mul, ofN, bt_e, or0, Nat.zero_add, Nat.add_zero, ↓reduceIte, if_true, if_false, Bool.false_eq_true, eq_self, li0, li1, li2, li3, li4, li5, li6, li7, li8, li9, li10, li11, li12, li14, li15, li16, li18, li19, li20, li23, li24, li25, li26, li27, li30, li31, li32, li36, li40, li41, li42, li43, li44, li45, li47, li48, li57, li59, li60, li91, li93, li96, li97, li100, li105, li122, li150, li200, li255, li400, li500, li600, li999, li1000, li1001, li2000, li2001, li2002, li2003, li2004, li2005, li2006, li32767, li100000, li_neg, li13, li17, li21, li22, li28, li29, li33, li34, li35, li37, li38, li39, li46, li49, li50, li51, li52, li53, li63, li80, li115, li160]
            · rcases Nat.lt_or_ge g i with h4 | h4
              · exact k4 g h1 h4 h3
              · obtain rfl : g = i := by omega
                omega
    · have cg0 : gok P q i = false := by simpa using cg
      have cg' : (kb P (nI i) &&& nI q = nI q) = False := eq_false (of_decide_eq_false cg0)
      refine ⟨s, ?_, ?_⟩
      · by_cases c : s = 4294967295
        · subst c
          simp (disch := omega) only [f_C_send_b, f_C_send_c, hr, hP.w, bt_nI, C_knownTo hP oP, cg', bI_s, bV_s, bL_s, bR_s, bG_s, bG_n, bX_l, bX_r, ck_nI, nI_clamp, nI_leT, nI_leF, nI_ltT, nI_ltF, nI_eqF, nI_add, pk_mul, ofN, bt_e, or0, Nat.zero_add, Nat.add_zero, ↓reduceIte, if_true, if_false, Bool.false_eq_true, eq_self, li0, li1, li2, li3, li4, li5, li6, li7, li8, li9, li10, li11, li12, li14, li15, li16, li18, li19, li20, li23, li24, li25, li26, li27, li30, li31, li32, li36, li40, li41, li42, li43, li44, li45, li47, li48, li57, li59, li60, li91, li93, li96, li97, li100, li105, li122, li150, li200, li255, li400, li500, li600, li999, li1000, li1001, li2000, li2001, li2002, li2003, li2004, li2005, li2006, li32767, li100000, li_neg, li13, li17, li21, li22, li28, li29, li33, li34, li35, li37, li38, li39, li46, li49, li50, li51, li52, li53, li63, li80, li115, li160]
        · have q1 := pc_le i
          have q2 := pc_le s
          by_cases c2 : pc i < pc s
          · simp (disch := omega) only [f_C_send_b, f_C_send_c, hr, hP.w, bt_nI, J_bc, C_knownTo hP oP, cg', bI_s, bV_s, bL_s, bR_s, bG_s, bG_n, bX_l, bX_r, ck_nI, nI_clamp, nI_leT, nI_leF, nI_ltT, nI_ltF, nI_eqF, nI_add, pk_mul, ofN, bt_e, or0, Nat.zero_add, Nat.add_zero, ↓reduceIte, if_true, if_false, Bool.false_eq_true, eq_self, li0, li1, li2, li3, li4, li5, li6, li7, li8, li9, li10, li11, li12, li14, li15, li16, li18, li19, li20, li23, li24, li25, li26, li27, li30, li31, li32, li36, li40, li41, li42, li43, li44, li45, li47, li48, li57, li59, li60, li91, li93, li96, li97, li100, li105, li122, li150, li200, li255, li400, li500, li600, li999, li1000, li1001, li2000, li2001, li2002, li2003, li2004, li2005, li2006, li32767, li100000, li_neg, li13, li17, li21, li22, li28, li29, li33, li34, li35, li37, li38, li39, li46, li49, li50, li51, li52, li53, li63, li80, li115, li160]
          · simp (disch := omega) only [f_C_send_b, f_C_send_c, hr, hP.w, bt_nI, J_bc, bI_s, bV_s, bL_s, bR_s, bG_s, bG_n, bX_l, bX_r, ck_nI, nI_clamp, nI_leT, nI_leF, nI_ltT, nI_ltF, nI_eqF, nI_add, pk_mul, ofN, bt_e, or0, Nat.zero_add, Nat.add_zero, ↓reduceIte, if_true, if_false, Bool.false_eq_true, eq_self, li0, li1, li2, li3, li4, li5, li6, li7, li8, li9, li10, li11, li12, li14, li15, li16, li18, li19, li20, li23, li24, li25, li26, li27, li30, li31, li32, li36, li40, li41, li42, li43, li44, li45, li47, li48, li57, li59, li60, li91, li93, li96, li97, li100, li105, li122, li150, li200, li255, li400, li500, li600, li999, li1000, li1001, li2000, li2001, li2002, li2003, li2004, li2005, li2006, li32767, li100000, li_neg, li13, li17, li21, li22, li28, li29, li33, li34, li35, li37, li38, li39, li46, li49, li50, li51, li52, li53, li63, li80, li115, li160]
      · rcases hI with ⟨e, h5⟩ | ⟨⟨k1, k2, k3⟩, k4⟩
        · refine Or.inl ⟨e, fun g h1 h2 => ?_⟩
          rcases Nat.lt_or_ge g i with h4 | h4
          · exact h5 g h1 h4
          · obtain rfl : g = i := by omega
            exact cg0
        · refine Or.inr ⟨⟨k1, by omega, k3⟩, fun g h1 h2 h3 => ?_⟩
          rcases Nat.lt_or_ge g i with h4 | h4
          · exact k4 g h1 h4 h3
          · obtain rfl : g = i := by omega
            rw [cg0] at h3; exact nomatch h3
  · refine ⟨Sum.inl (nI s, M), ?_, s, rfl, hI⟩
    simp (disch := omega) only [f_C_send_b, hr, hP.w, bt_nI, bI_s, bV_s, bL_s, bR_s, bG_s, bG_n, bX_l, bX_r, ck_nI, nI_clamp, nI_leT, nI_leF, nI_ltT, nI_ltF, nI_eqF, nI_add, pk_mul, ofN, bt_e, or0, Nat.zero_add, Nat.add_zero, ↓reduceIte, if_true, if_false, Bool.false_eq_true, eq_self, li0, li1, li2, li3, li4, li5, li6, li7, li8, li9, li10, li11, li12, li14, li15, li16, li18, li19, li20, li23, li24, li25, li26, li27, li30, li31, li32, li36, li40, li41, li42, li43, li44, li45, li47, li48, li57, li59, li60, li91, li93, li96, li97, li100, li105, li122, li150, li200, li255, li400, li500, li600, li999, li1000, li1001, li2000, li2001, li2002, li2003, li2004, li2005, li2006, li32767, li100000, li_neg, li13, li17, li21, li22, li28, li29, li33, li34, li35, li37, li38, li39, li46, li49, li50, li51, li52, li53, li63, li80, li115, li160]
theorem M_send (hQ : isQ M m P) (oP : okP P) {q : Nat} : ∃ r, f_M_send_c FU m (nI q) (nI 4294967295) (nI (2 ^ P 0 5 - 1)) M = some (nI r, M) ∧ bstG P q 0 (2 ^ P 0 5) r := by
  have hw := oP.w
  have h64 : 2 ^ P 0 5 ≤ 2 ^ 6 := Nat.pow_le_pow_right (by omega) hw
  have h1' : (1 : Nat) ≤ 2 ^ P 0 5 := Nat.one_le_two_pow
  have mlt : (nI 4294967295 < nI 0) = True := eq_true (m1lt (by omega))
  have key := lp_mes (α := Nat × Nat) (R := Int32 × Mm) (fun u s => f_M_send_c u m (nI q) (nI s.1) (if s.2 = 0 then nI 4294967295 else nI (s.2 - 1)) M) (fun s => s.2) (fun s => s.2 ≤ 2 ^ P 0 5 ∧ bstG P q s.2 (2 ^ P 0 5) s.1) (fun x => ∃ r, x = (nI r, M) ∧ bstG P q 0 (2 ^ P 0 5) r) (fun u s hI => ?_) FU (4294967295, 2 ^ P 0 5) ⟨Nat.le_refl _, Or.inl ⟨rfl, fun g h1 h2 => by omega⟩⟩ (FU_lt (by show 2 ^ P 0 5 < 10000; omega))
  · obtain ⟨x, e, r, e1, e2⟩ := key
    dsimp only at e
    rw [if_neg (by omega)] at e
    exact ⟨r, by rw [e, e1], e2⟩
  · obtain ⟨s, n⟩ := s
    obtain ⟨hn, hI⟩ := hI
    dsimp only at hn hI ⊢
    by_cases c0 : n = 0
    · subst c0
      refine Or.inr ⟨(nI s, M), ?_, s, rfl, hI⟩
      simp (disch := omega) only [f_M_send_c, mlt, bI_s, bV_s, bL_s, bR_s, bG_s, bG_n, bX_l, bX_r, ck_nI, nI_clamp, nI_leT, nI_leF, nI_ltT, nI_ltF, nI_eqF, nI_add, pk_mul, ofN, bt_e, or0, Nat.zero_add, Nat.add_zero, ↓reduceIte, if_true, if_false, Bool.false_eq_true, eq_self, li0, li1, li2, li3, li4, li5, li6, li7, li8, li9, li10, li11, li12, li14, li15, li16, li18, li19, li20, li23, li24, li25, li26, li27, li30, li31, li32, li36, li40, li41, li42, li43, li44, li45, li47, li48, li57, li59, li60, li91, li93, li96, li97, li100, li105, li122, li150, li200, li255, li400, li500, li600, li999, li1000, li1001, li2000, li2001, li2002, li2003, li2004, li2005, li2006, li32767, li100000, li_neg, li13, li17, li21, li22, li28, li29, li33, li34, li35, li37, li38, li39, li46, li49, li50, li51, li52, li53, li63, li80, li115, li160]
    · refine Or.inl ?_
      obtain ⟨i, rfl⟩ : ∃ i, n = i + 1 := ⟨n - 1, by omega⟩
      have hs32 : s < 2 ^ 32 ∧ (s = 4294967295 ∨ s < 64) := by
        rcases hI with ⟨e, _⟩ | ⟨⟨_, h2, _⟩, _⟩ <;> omega
      have ed : (if i = 0 then nI 4294967295 else nI (i - 1)) = nI i + nI 4294967295 := by
        by_cases ci : i = 0
        · subst ci; rw [if_pos rfl]; rfl
        · rw [if_neg ci, nI_add, nI_w (by omega)]
      by_cases cg : gok P q i = true
      · have cg' := gok_m.mpr cg
        by_cases c : s = 4294967295
        · subst c
          refine ⟨(i, i), ?_, ⟨by show i ≤ _; omega, Or.inr ⟨⟨by omega, by show i < _; omega, cg⟩, fun g h1 h2 h3 => ?_⟩⟩, by show i < i + 1; omega⟩
          · simp (disch := omega) only [f_M_send_c, M_knownBy hQ oP, cg', ed, Nat.add_sub_cancel, Nat.succ_ne_zero, bI_s, bV_s, bL_s, bR_s, bG_s, bG_n, bX_l, bX_r, ck_nI, nI_clamp, nI_leT, nI_leF, nI_ltT, nI_ltF, nI_eqF, nI_add, pk_mul, ofN, bt_e, or0, Nat.zero_add, Nat.add_zero, ↓reduceIte, if_true, if_false, Bool.false_eq_true, eq_self, li0, li1, li2, li3, li4, li5, li6, li7, li8, li9, li10, li11, li12, li14, li15, li16, li18, li19, li20, li23, li24, li25, li26, li27, li30, li31, li32, li36, li40, li41, li42, li43, li44, li45, li47, li48, li57, li59, li60, li91, li93, li96, li97, li100, li105, li122, li150, li200, li255, li400, li500, li600, li999, li1000, li1001, li2000, li2001, li2002, li2003, li2004, li2005, li2006, li32767, li100000, li_neg, li13, li17, li21, li22, li28, li29, li33, li34, li35, li37, li38, li39, li46, li49, li50, li51, li52, li53, li63, li80, li115, li160]
          · rcases Nat.lt_or_ge i g with h4 | h4
            · rcases hI with ⟨_, h5⟩ | ⟨⟨_, h5, _⟩, _⟩
              · have := h5 g (by omega) h2; rw [h3] at this; exact nomatch this
              · omega
            · obtain rfl : g = i := by
                have : i ≤ g := h1
                omega
              exact Or.inr ⟨rfl, Nat.le_refl _⟩
        · rcases hI with ⟨e, _⟩ | ⟨⟨k1, k2, k3⟩, k4⟩
          · exact absurd e c
          · have q1 := pc_le i
            have q2 := pc_le s
            by_cases c2 : pc s < pc i
            · refine ⟨(s, i), ?_, ⟨by show i ≤ _; omega, Or.inr ⟨⟨by show i ≤ s; omega, by show s < _; omega, k3⟩, fun g h1 h2 h3 => ?_⟩⟩, by show i < i + 1; omega⟩
              · simp (disch := omega) only [f_M_send_c, M_knownBy hQ oP, cg', M_ones, ed, Nat.add_sub_cancel, Nat.succ_ne_zero, bI_s, bV_s, bL_s, bR_s, bG_s, bG_n, bX_l, bX_r, ck_nI, nI_clamp, nI_leT, nI_leF, nI_ltT, nI_ltF, nI_eqF, nI_add, pk_mul, ofN, bt_e, or0, Nat.zero_add, Nat.add_zero, ↓reduceIte, if_true, if_false, Bool.false_eq_true, eq_self, li0, li1, li2, li3, li4, li5, li6, li7, li8, li9, li10, li11, li12, li14, li15, li16, li18, li19, li20, li23, li24, li25, li26, li27, li30, li31, li32, li36, li40, li41, li42, li43, li44, li45, li47, li48, li57, li59, li60, li91, li93, li96, li97, li100, li105, li122, li150, li200, li255, li400, li500, li600, li999, li1000, li1001, li2000, li2001, li2002, li2003, li2004, li2005, li2006, li32767, li100000, li_neg, li13, li17, li21, li22, li28, li29, li33, li34, li35, li37, li38, li39, li46, li49, li50, li51, li52, li53, li63, li80, li115, li160]
              · rcases Nat.lt_or_ge i g with h4 | h4
                · exact k4 g (by omega) h2 h3
                · obtain rfl : g = i := by
                    have : i ≤ g := h1
                    omega
                  exact Or.inl c2
            · refine ⟨(i, i), ?_, ⟨by show i ≤ _; omega, Or.inr ⟨⟨by omega, by show i < _; omega, cg⟩, fun g h1 h2 h3 => ?_⟩⟩, by show i < i + 1; omega⟩
              · simp (disch := omega) only [f_M_send_c, M_knownBy hQ oP, cg', M_ones, ed, Nat.add_sub_cancel, Nat.succ_ne_zero, bI_s, bV_s, bL_s, bR_s, bG_s, bG_n, bX_l, bX_r, ck_nI, nI_clamp, nI_leT, nI_leF, nI_ltT, nI_ltF, nI_eqF, nI_add, pk_mul, ofN, bt_e, or0, Nat.zero_add, Nat.add_zero, ↓reduceIte, if_true, if_false, Bool.false_eq_true, eq_self, li0, li1, li2, li3, li4, li5, li6, li7, li8, li9, li10, li11, li12, li14, li15, li16, li18, li19, li20, li23, li24, li25, li26, li27, li30, li31, li32, li36, li40, li41, li42, li43, li44, li45, li47, li48, li57, li59, li60, li91, li93, li96, li97, li100, li105, li122, li150, li200, li255, li400, li500, li600, li999, li1000, li1001, li2000, li2001, li2002, li2003, li2004, li2005, li2006, li32767, li100000, li_neg, li13, li17, li21, li22, li28, li29, li33, li34, li35, li37, li38, li39, li46, li49, li50, li51, li52, li53, li63, li80, li115, li160]
              · rcases Nat.lt_or_ge i g with h4 | h4
                · have := k4 g (by omega) h2 h3
                  show pc i < pc g ∨ (pc i = pc g ∧ i ≤ g)
                  omega
                · obtain rfl : g = i := by
                    have : i ≤ g := h1
                    omega
                  exact Or.inr ⟨rfl, Nat.le_refl _⟩
      · have cg0 : gok P q i = false := by simpa using cg
        have cg' : (nI q &&& (kb P (nI i) ^^^ nI 4294967295) = nI 0) = False := eq_false (fun z => cg (gok_m.mp z))
        refine ⟨(s, i), ?_, ⟨by show i ≤ _; omega, ?_⟩, by show i < i + 1; omega⟩
        · simp (disch := omega) only [f_M_send_c, M_knownBy hQ oP, cg', ed, Nat.add_sub_cancel, Nat.succ_ne_zero, bI_s, bV_s, bL_s, bR_s, bG_s, bG_n, bX_l, bX_r, ck_nI, nI_clamp, nI_leT, nI_leF, nI_ltT, nI_ltF, nI_eqF, nI_add, pk_mul, ofN, bt_e, or0, Nat.zero_add, Nat.add_zero, ↓reduceIte, if_true, if_false, Bool.false_eq_true, eq_self, li0, li1, li2, li3, li4, li5, li6, li7, li8, li9, li10, li11, li12, li14, li15, li16, li18, li19, li20, li23, li24, li25, li26, li27, li30, li31, li32, li36, li40, li41, li42, li43, li44, li45, li47, li48, li57, li59, li60, li91, li93, li96, li97, li100, li105, li122, li150, li200, li255, li400, li500, li600, li999, li1000, li1001, li2000, li2001, li2002, li2003, li2004, li2005, li2006, li32767, li100000, li_neg, li13, li17, li21, li22, li28, li29, li33, li34, li35, li37, li38, li39, li46, li49, li50, li51, li52, li53, li63, li80, li115, li160]
        · show bstG P q i (2 ^ P 0 5) s
          rcases hI with ⟨e, h5⟩ | ⟨⟨k1, k2, k3⟩, k4⟩
          · refine Or.inl ⟨e, fun g h1 h2 => ?_⟩
            rcases Nat.lt_or_ge i g with h4 | h4
            · exact h5 g (by omega) h2
            · obtain rfl : g = i := by omega
              exact cg0
          · refine Or.inr ⟨⟨by omega, k2, k3⟩, fun g h1 h2 h3 => ?_⟩
            rcases Nat.lt_or_ge i g with h4 | h4
            · exact k4 g (by omega) h2 h3
            · obtain rfl : g = i := by omega
              rw [cg0] at h3; exact nomatch h3
theorem A_send (h : InvS o M S) (p0 : Int32) : Ag cd1 Int32.toInt64 o (fun k => k = 1) (f_C_send o p0 M) (fun M1 => f_M_send (o + 61) p0 M1) := by
  obtain ⟨p, l, d, hr, ⟨hP, hW⟩, ⟨⟨t1, t2⟩, t3, ⟨t4, t5, t6⟩, t7, t8⟩, ⟨hL, hD⟩, oP, oW⟩ := h.u
  have hr10 := hr.2.1.1
  have hr12 := hr.2.2.1.1
  have hr14 := hr.2.2.2.1
  have hRb := oP.r
  have hBb := oP.b
  have hWb := oP.w
  have hLb := oW.l
  have h64 : 2 ^ S.1 0 5 ≤ 2 ^ 6 := Nat.pow_le_pow_right (by omega) hWb
  rcases bts p0 (S.1 0 2) (by omega) with ⟨q, h1, rfl⟩ | ⟨w1, w2⟩
  · obtain ⟨r, e1, e2⟩ := C_send hr10 hP oP (q := q)
    refine agR0 h (v := nI r) ?_ (fun M1 hm => ?_)
    · simp (disch := omega) only [f_C_send, hr10, hP.b, C_areT, f_C_mustBe, e1, bI_s, bV_s, bL_s, bR_s, bG_s, bG_n, bX_l, bX_r, ck_nI, nI_clamp, nI_leT, nI_leF, nI_ltT, nI_ltF, nI_eqF, nI_add, pk_mul, ofN, bt_e, or0, Nat.zero_add, Nat.add_zero, ↓reduceIte, if_true, if_false, Bool.false_eq_true, eq_self, li0, li1, li2, li3, li4, li5, li6, li7, li8, li9, li10, li11, li12, li14, li15, li16, li18, li19, li20, li23, li24, li25, li26, li27, li30, li31, li32, li36, li40, li41, li42, li43, li44, li45, li47, li48, li57, li59, li60, li91, li93, li96, li97, li100, li105, li122, li150, li200, li255, li400, li500, li600, li999, li1000, li1001, li2000, li2001, li2002, li2003, li2004, li2005, li2006, li32767, li100000, li_neg, li13, li17, li21, li22, li28, li29, li33, li34, li35, li37, li38, li39, li46, li49, li50, li51, li52, li53, li63, li80, li115, li160]
    · obtain ⟨r', e3, e4⟩ := M_send hm.1.1 oP (q := q)
      have := bstG_u (by omega) e2 e4
      subst this
      have lw := lowb (n := S.1 0 5) (by omega)
      simp (disch := omega) only [f_M_send, f_M_areBids, f_M_send_b, hm.1.1.b, hm.1.1.w, M_areT, hm.b0, lw, e3, bI_s, bV_s, bL_s, bR_s, bG_s, bG_n, bX_l, bX_r, ck_nI, nI_clamp, nI_leT, nI_leF, nI_ltT, nI_ltF, nI_eqF, nI_add, pk_mul, ofN, bt_e, or0, Nat.zero_add, Nat.add_zero, ↓reduceIte, if_true, if_false, Bool.false_eq_true, eq_self, li0, li1, li2, li3, li4, li5, li6, li7, li8, li9, li10, li11, li12, li14, li15, li16, li18, li19, li20, li23, li24, li25, li26, li27, li30, li31, li32, li36, li40, li41, li42, li43, li44, li45, li47, li48, li57, li59, li60, li91, li93, li96, li97, li100, li105, li122, li150, li200, li255, li400, li500, li600, li999, li1000, li1001, li2000, li2001, li2002, li2003, li2004, li2005, li2006, li32767, li100000, li_neg, li13, li17, li21, li22, li28, li29, li33, li34, li35, li37, li38, li39, li46, li49, li50, li51, li52, li53, li63, li80, li115, li160]
  · refine agE1 h (cc := 1) rfl rfl (by omega) ?_ (nI 0) (fun M1 hm => ?_)
    · simp (disch := omega) only [f_C_send, hr10, hP.b, w1, f_C_mustBe, t6, bI_s, bV_s, bL_s, bR_s, bG_s, bG_n, bX_l, bX_r, ck_nI, nI_clamp, nI_leT, nI_leF, nI_ltT, nI_ltF, nI_eqF, nI_add, pk_mul, ofN, bt_e, or0, Nat.zero_add, Nat.add_zero, ↓reduceIte, if_true, if_false, Bool.false_eq_true, eq_self, li0, li1, li2, li3, li4, li5, li6, li7, li8, li9, li10, li11, li12, li14, li15, li16, li18, li19, li20, li23, li24, li25, li26, li27, li30, li31, li32, li36, li40, li41, li42, li43, li44, li45, li47, li48, li57, li59, li60, li91, li93, li96, li97, li100, li105, li122, li150, li200, li255, li400, li500, li600, li999, li1000, li1001, li2000, li2001, li2002, li2003, li2004, li2005, li2006, li32767, li100000, li_neg, li13, li17, li21, li22, li28, li29, li33, li34, li35, li37, li38, li39, li46, li49, li50, li51, li52, li53, li63, li80, li115, li160]
    · simp (disch := omega) only [f_M_send, f_M_areBids, f_M_send_b, hm.1.1.b, w2, hm.b11, bI_s, bV_s, bL_s, bR_s, bG_s, bG_n, bX_l, bX_r, ck_nI, nI_clamp, nI_leT, nI_leF, nI_ltT, nI_ltF, nI_eqF, nI_add, pk_mul, ofN, bt_e, or0, Nat.zero_add, Nat.add_zero, ↓reduceIte, if_true, if_false, Bool.false_eq_true, eq_self, li0, li1, li2, li3, li4, li5, li6, li7, li8, li9, li10, li11, li12, li14, li15, li16, li18, li19, li20, li23, li24, li25, li26, li27, li30, li31, li32, li36, li40, li41, li42, li43, li44, li45, li47, li48, li57, li59, li60, li91, li93, li96, li97, li100, li105, li122, li150, li200, li255, li400, li500, li600, li999, li1000, li1001, li2000, li2001, li2002, li2003, li2004, li2005, li2006, li32767, li100000, li_neg, li13, li17, li21, li22, li28, li29, li33, li34, li35, li37, li38, li39, li46, li49, li50, li51, li52, li53, li63, li80, li115, li160]
end
