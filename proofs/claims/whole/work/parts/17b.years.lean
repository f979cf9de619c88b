/-! # functional level, 24: years, span -/
section
variable {M M' M1 N : Mm} {o m p : Nat} {S : St} {P W : TT} {R : Int32 → Nat} {L : Int32 → Int32}
def yrs (R : Int32 → Nat) (L : Int32 → Int32) (P : TT) (q mm n : Nat) (y : YT) : YT := fo n (fun i y => dwn R L P q mm (i + 1) y) y
def yfin (R : Int32 → Nat) (L : Int32 → Int32) (P : TT) (q mm n : Nat) (y : YT) : YT := if P 0 5 = 0 ∨ P 0 2 = 0 ∨ P 0 0 = 0 then y else yrs R L P q mm n y
theorem rF0 (W : TT) (lo k : Nat) : ∀ n : Nat, (rF W lo n).2 0 k = W 0 k
  | 0 => rfl
  | n + 1 => by
    show (rS lo n (rF W lo n)).2 0 k = _
    unfold rS
    split
    · exact rF0 W lo k n
    · simp (disch := omega) only [cpL, up_n]
      exact rF0 W lo k n
theorem aWr_1 (P W : TT) (w b r : Nat) : aWr P W w b r 0 1 = W 0 1 + (if mw P W w b r = true then 1 else 0) := by
  unfold aWr
  by_cases c : mw P W w b r = true
  · rw [if_pos c, if_pos c]; simp (disch := omega) only [wWr, up_n, up_s]
  · rw [if_neg c, if_neg c]; rfl
theorem aSl_1 (P W : TT) (b : Nat) : aSl P W b 0 1 = W 0 1 := by
  unfold aSl
  split
  · rfl
  · simp (disch := omega) only [wSl, up_n]
theorem wRn_1 (W : TT) (lo : Nat) : wRn W lo 0 1 = W 0 1 := by
  unfold wRn
  rw [up_n (by omega)]; exact rF0 W lo 1 _
theorem dwn_1 (R : Int32 → Nat) (L : Int32 → Int32) (P : TT) (q mm k : Nat) (y : YT) : (dwn R L P q mm k y).2.1 0 1 + y.2.2.1 = y.2.1 0 1 + (dwn R L P q mm k y).2.2.1 := by
  have e1 : (y1 R L P y).2.1 0 1 + y.2.2.1 = y.2.1 0 1 + (y1 R L P y).2.2.1 := by
    show aWr P y.2.1 (yw R L P y) (yb R L P y) (yr R L P y) 0 1 + y.2.2.1 = y.2.1 0 1 + (y.2.2.1 + (if mw P y.2.1 (yw R L P y) (yb R L P y) (yr R L P y) = true then 1 else 0))
    rw [aWr_1]; omega
  have e2 : ∀ z : YT, ∀ b, (y2 R L P q b z).2.1 0 1 = z.2.1 0 1 ∧ (y2 R L P q b z).2.2.1 = z.2.2.1 := fun z b => by
    unfold y2
    split
    · exact ⟨aSl_1 .., rfl⟩
    · exact ⟨rfl, rfl⟩
  have e3 : ∀ z : YT, (y3 R L mm z).2.1 0 1 = z.2.1 0 1 ∧ (y3 R L mm z).2.2.1 = z.2.2.1 := fun z => by
    unfold y3
    split
    · exact ⟨wRn_1 .., rfl⟩
    · exact ⟨rfl, rfl⟩
  have e4 : ∀ z : YT, (y4 P k z).2.1 0 1 = z.2.1 0 1 ∧ (y4 P k z).2.2.1 = z.2.2.1 := fun z => by
    unfold y4
    split
    · exact ⟨(wNt_0 (P := P) (W := z.2.1)).2, rfl⟩
    · exact ⟨rfl, rfl⟩
  unfold dwn
  rw [(e4 _).1, (e4 _).2, (e3 _).1, (e3 _).2, (e2 _ _).1, (e2 _ _).2]
  exact e1
theorem yrs_1 (R : Int32 → Nat) (L : Int32 → Int32) (P : TT) (q mm : Nat) (y : YT) : ∀ n : Nat, (yrs R L P q mm n y).2.1 0 1 + y.2.2.1 = y.2.1 0 1 + (yrs R L P q mm n y).2.2.1
  | 0 => rfl
  | n + 1 => by
    have ih := yrs_1 R L P q mm y n
    have h := dwn_1 R L P q mm (n + 1) (yrs R L P q mm n y)
    show (dwn R L P q mm (n + 1) (yrs R L P q mm n y)).2.1 0 1 + y.2.2.1 = y.2.1 0 1 + (dwn R L P q mm (n + 1) (yrs R L P q mm n y)).2.2.1
    omega
theorem yfin_1 (R : Int32 → Nat) (L : Int32 → Int32) (P : TT) (q mm n : Nat) (y : YT) : (yfin R L P q mm n y).2.1 0 1 + y.2.2.1 = y.2.1 0 1 + (yfin R L P q mm n y).2.2.1 := by
  unfold yfin
  split
  · rfl
  · exact yrs_1 R L P q mm y n
/-! kept -/
def kp (P W : TT) : Int32 := fo (P 0 2) (fun b s => if decide (W 5 b = P 2 b) = true then s ||| bt b else s) (nI 0)
def kg (P W : TT) : Nat := (kp P W).toBitVec.toNat
theorem kp_e (P W : TT) : kp P W = nI (kg P W) := nI_tn _
theorem kg_lt (oP : okP P) : kg P W < 256 := by
  have hB := oP.b
  refine Nat.lt_pow_two_of_testBit (n := 8) _ (fun i hi => ?_)
  rcases Nat.lt_or_ge i 32 with c | c
  · have h1 := hs_bv (x := kp P W) c
    rw [BitVec.getLsbD] at h1
    show Nat.testBit (kp P W).toBitVec.toNat i = false
    rw [← h1]
    cases hx : hs (kp P W) i with
    | false => rfl
    | true =>
      obtain ⟨j, h2, _, h3⟩ := (hs_fo (c := fun b => decide (W 5 b = P 2 b)) (g := fun b => b) c (P 0 2) (fun i hi => by omega)).mp hx
      omega
  · exact Nat.testBit_lt_two_pow (Nat.lt_of_lt_of_le (kp P W).toBitVec.isLt (Nat.pow_le_pow_right (by omega) c))
theorem C_kept (hP : isP M p P) (oP : okP P) (hW : isW M o P W) (oW : okW P W) : f_Wall_keptAsTold o p M = some (kp P W, M) := by
  have hB := oP.b
  have key := lp_up (fun u i s => f_Wall_keptAsTold_b u o p s (nI i) M) (P 0 2) (fun b s => if decide (W 5 b = P 2 b) = true then s ||| bt b else s) (some (kp P W, M)) (nI 0) (fun u i s hi => ?_) (fun u => ?_) FU (FU_lt (by omega))
  · exact key
  · have h1 := oW.me hi
    have h2 := oP.act hi
    by_cases c : W 5 i = P 2 i
    · simp (disch := omega) only [f_Wall_keptAsTold_b, hP.b, hW.me hi, hP.act hi, c, decide_true, bI_s, bV_s, bL_s, bR_s, bG_s, bG_n, bX_l, bX_r, ck_nI, nI_clamp, nI_leT, nI_leF, nI_ltT, nI_ltF, nI_eqF, nI_add, pk_mul, ofN, bt_e, or0, Nat.zero_add, Nat.add_zero, ↓reduceIte, if_true, if_false, Bool.false_eq_true, eq_self, li0, li1, li2, li3, li4, li5, li6, li7, li8, li9, li10, li11, li12, li14, li15, li16, li18, li19, li20, li23, li24, li25, li26, li27, li30, li31, li32, li36, li40, li41, li42, li43, li44, li45, li47, li48, li57, li59, li60, li91, li93, li96, li97, li100, li105, li122, li150, li200, li255, li400, li500, li600, li999, li1000, li1001, li2000, li2001, li2002, li2003, li2004, li2005, li2006, li32767, li100000, li_neg, li13, li17, li21, li22, li28, li29, li33, li34, li35, li37, li38, li39, li46, li49, li50, li51, li52, li53, li63, li80, li115, li160]
    · simp (disch := omega) only [f_Wall_keptAsTold_b, hP.b, hW.me hi, hP.act hi, c, decide_false, bI_s, bV_s, bL_s, bR_s, bG_s, bG_n, bX_l, bX_r, ck_nI, nI_clamp, nI_leT, nI_leF, nI_ltT, nI_ltF, nI_eqF, nI_add, pk_mul, ofN, bt_e, or0, Nat.zero_add, Nat.add_zero, ↓reduceIte, if_true, if_false, Bool.false_eq_true, eq_self, li0, li1, li2, li3, li4, li5, li6, li7, li8, li9, li10, li11, li12, li14, li15, li16, li18, li19, li20, li23, li24, li25, li26, li27, li30, li31, li32, li36, li40, li41, li42, li43, li44, li45, li47, li48, li57, li59, li60, li91, li93, li96, li97, li100, li105, li122, li150, li200, li255, li400, li500, li600, li999, li1000, li1001, li2000, li2001, li2002, li2003, li2004, li2005, li2006, li32767, li100000, li_neg, li13, li17, li21, li22, li28, li29, li33, li34, li35, li37, li38, li39, li46, li49, li50, li51, li52, li53, li63, li80, li115, li160]
  · simp (disch := omega) only [f_Wall_keptAsTold_b, hP.b, kp, bI_s, bV_s, bL_s, bR_s, bG_s, bG_n, bX_l, bX_r, ck_nI, nI_clamp, nI_leT, nI_leF, nI_ltT, nI_ltF, nI_eqF, nI_add, pk_mul, ofN, bt_e, or0, Nat.zero_add, Nat.add_zero, ↓reduceIte, if_true, if_false, Bool.false_eq_true, eq_self, li0, li1, li2, li3, li4, li5, li6, li7, li8, li9, li10, li11, li12, li14, li15, li16, li18, li19, li20, li23, li24, li25, li26, li27, li30, li31, li32, li36, li40, li41, li42, li43, li44, li45, li47, li48, li57, li59, li60, li91, li93, li96, li97, li100, li105, li122, li150, li200, li255, li400, li500, li600, li999, li1000, li1001, li2000, li2001, li2002, li2003, li2004, li2005, li2006, li32767, li100000, li_neg, li13, li17, li21, li22, li28, li29, li33, li34, li35, li37, li38, li39, li46, li49, li50, li51, li52, li53, li63, li80, li115, li160]
theorem M_kept (hQ : isQ N m P) (oP : okP P) {a : Nat} (hN : isN N a P W) (oW : okW P W) : f_M_keptIn m a 105 N = some (kp P W, N) := by
  have hB := oP.b
  have key := lp_up (fun u i s => f_M_keptIn_b u m a 105 s (nI i) N) (P 0 2) (fun b s => if decide (W 5 b = P 2 b) = true then s ||| bt b else s) (some (kp P W, N)) (nI 0) (fun u i s hi => ?_) (fun u => ?_) FU (FU_lt (by omega))
  · exact key
  · have h1 := oW.me hi
    have h2 := oP.act hi
    by_cases c : W 5 i = P 2 i
    · simp (disch := omega) only [f_M_keptIn_b, hQ.b, hN.me hi, hQ.act hi, c, decide_true, bI_s, bV_s, bL_s, bR_s, bG_s, bG_n, bX_l, bX_r, ck_nI, nI_clamp, nI_leT, nI_leF, nI_ltT, nI_ltF, nI_eqF, nI_add, pk_mul, ofN, bt_e, or0, Nat.zero_add, Nat.add_zero, ↓reduceIte, if_true, if_false, Bool.false_eq_true, eq_self, li0, li1, li2, li3, li4, li5, li6, li7, li8, li9, li10, li11, li12, li14, li15, li16, li18, li19, li20, li23, li24, li25, li26, li27, li30, li31, li32, li36, li40, li41, li42, li43, li44, li45, li47, li48, li57, li59, li60, li91, li93, li96, li97, li100, li105, li122, li150, li200, li255, li400, li500, li600, li999, li1000, li1001, li2000, li2001, li2002, li2003, li2004, li2005, li2006, li32767, li100000, li_neg, li13, li17, li21, li22, li28, li29, li33, li34, li35, li37, li38, li39, li46, li49, li50, li51, li52, li53, li63, li80, li115, li160]
    · simp (disch := omega) only [f_M_keptIn_b, hQ.b, hN.me hi, hQ.act hi, c, decide_false, bI_s, bV_s, bL_s, bR_s, bG_s, bG_n, bX_l, bX_r, ck_nI, nI_clamp, nI_leT, nI_leF, nI_ltT, nI_ltF, nI_eqF, nI_add, pk_mul, ofN, bt_e, or0, Nat.zero_add, Nat.add_zero, ↓reduceIte, if_true, if_false, Bool.false_eq_true, eq_self, li0, li1, li2, li3, li4, li5, li6, li7, li8, li9, li10, li11, li12, li14, li15, li16, li18, li19, li20, li23, li24, li25, li26, li27, li30, li31, li32, li36, li40, li41, li42, li43, li44, li45, li47, li48, li57, li59, li60, li91, li93, li96, li97, li100, li105, li122, li150, li200, li255, li400, li500, li600, li999, li1000, li1001, li2000, li2001, li2002, li2003, li2004, li2005, li2006, li32767, li100000, li_neg, li13, li17, li21, li22, li28, li29, li33, li34, li35, li37, li38, li39, li46, li49, li50, li51, li52, li53, li63, li80, li115, li160]
  · simp (disch := omega) only [f_M_keptIn_b, hQ.b, kp, bI_s, bV_s, bL_s, bR_s, bG_s, bG_n, bX_l, bX_r, ck_nI, nI_clamp, nI_leT, nI_leF, nI_ltT, nI_ltF, nI_eqF, nI_add, pk_mul, ofN, bt_e, or0, Nat.zero_add, Nat.add_zero, ↓reduceIte, if_true, if_false, Bool.false_eq_true, eq_self, li0, li1, li2, li3, li4, li5, li6, li7, li8, li9, li10, li11, li12, li14, li15, li16, li18, li19, li20, li23, li24, li25, li26, li27, li30, li31, li32, li36, li40, li41, li42, li43, li44, li45, li47, li48, li57, li59, li60, li91, li93, li96, li97, li100, li105, li122, li150, li200, li255, li400, li500, li600, li999, li1000, li1001, li2000, li2001, li2002, li2003, li2004, li2005, li2006, li32767, li100000, li_neg, li13, li17, li21, li22, li28, li29, li33, li34, li35, li37, li38, li39, li46, li49, li50, li51, li52, li53, li63, li80, li115, li160]
/-! the whole play -/
theorem C_play (dC : DC R L) (hP : isP M p P) (oP : okP P) (hW : isW M (o + 8) P W) (oW : okW P W) (hp : p = o + 37 ∨ p = o + 45) {ds q mm : Nat} (hds : ds ≤ 96) (hq : q ≤ 16) (hm : mm ≤ 16) (sd : Int32) : ∃ M', f_Dawns_play (o + 25) p (o + 8) sd (nI ds) (nI q) (nI mm) M = some M' ∧ (gI M' (o + 25) 2 = nI (yfin R L P q mm ds (sd, W, 0, 0, 0)).2.2.1 ∧ gI M' (o + 25) 3 = nI (yfin R L P q mm ds (sd, W, 0, 0, 0)).2.2.2.1) ∧ (gI M' (o + 25) 4 = nI (yfin R L P q mm ds (sd, W, 0, 0, 0)).2.2.2.2 ∧ gI M' (o + 25) 5 = kp P (yfin R L P q mm ds (sd, W, 0, 0, 0)).2.1) ∧ Fr (scr o) M M' := by
  have b0 := oP.r
  have b2 := oP.b
  have b5 := oP.w
  obtain ⟨M1, e1, e2, e3⟩ := C_becomeW (o := o + 25 + 1) (q := o + 8) (M := M) (by omega) oP hW oW
  have f1 : Fr (rg (o + 25) 9) M (sI (sI (sI (sI M1 (o + 25) 1 sd) (o + 25) 2 (nI 0)) (o + 25) 3 (nI 0)) (o + 25) 4 (nI 0)) := (((((e3.mono (fun a (ha : _ ∧ _) => ⟨by omega, by omega⟩)).sI ⟨by omega, by omega⟩).sI ⟨by omega, by omega⟩).sI ⟨by omega, by omega⟩).sI ⟨by omega, by omega⟩)
  have p1 := hP.fr f1 (fun x h1 h2 => by unfold rg; omega)
  have y0 : YC (sI (sI (sI (sI M1 (o + 25) 1 sd) (o + 25) 2 (nI 0)) (o + 25) 3 (nI 0)) (o + 25) 4 (nI 0)) (o + 25) P (sd, W, 0, 0, 0) := by
    refine ⟨⟨?_, ?_, oW⟩, ?_, ?_, gI_same ..⟩
    · rw [gI_ne (by omega), gI_ne (by omega), gI_ne (by omega)]; exact gI_same ..
    · exact e2.fr (((((Fr.rf (rg (o + 25) 1) M1).sI ⟨by omega, by omega⟩).sI ⟨by omega, by omega⟩).sI ⟨by omega, by omega⟩).sI ⟨by omega, by omega⟩) (fun x h1 h2 => by unfold rg; omega)
    · rw [gI_ne (by omega), gI_ne (by omega)]; exact gI_same ..
    · rw [gI_ne (by omega)]; exact gI_same ..
  have fin : ∀ (N : Mm) (z : YT), YC N (o + 25) P z → Fr (rg (o + 25) 9) M N → ∃ M', f_Dawns_play_c (o + 25) p (o + 8) sd (nI ds) (nI q) (nI mm) N = some M' ∧ (gI M' (o + 25) 2 = nI z.2.2.1 ∧ gI M' (o + 25) 3 = nI z.2.2.2.1) ∧ (gI M' (o + 25) 4 = nI z.2.2.2.2 ∧ gI M' (o + 25) 5 = kp P z.2.1) ∧ Fr (scr o) M M' := by
    intro N z hz fz
    have pz := hP.fr fz (fun x h1 h2 => by unfold rg; omega)
    refine ⟨sI N (o + 25) 5 (kp P z.2.1), ?_, ⟨?_, ?_⟩, ⟨?_, gI_same ..⟩, (fz.mono (fun a (ha : _ ∧ _) => Or.inl (by omega))).sI (Or.inl (by omega))⟩
    · simp (disch := omega) only [f_Dawns_play_c, C_kept pz oP hz.1.2.1 hz.1.2.2, bI_s, bV_s, bL_s, bR_s, bG_s, bG_n, bX_l, bX_r, ck_nI, nI_clamp, nI_leT, nI_leF, nI_ltT, nI_ltF, nI_eqF, nI_add, pk_mul, ofN, bt_e, or0, Nat.zero_add, Nat.add_zero, ↓reduceIte, if_true, if_false, Bool.false_eq_true, eq_self, li0, li1, li2, li3, li4, li5, li6, li7, li8, li9, li10, li11, li12, li14, li15, li16, li18, li19, li20, li23, li24, li25, li26, li27, li30, li31, li32, li36, li40, li41, li42, li43, li44, li45, li47, li48, li57, li59, li60, li91, li93, li96, li97, li100, li105, li122, li150, li200, li255, li400, li500, li600, li999, li1000, li1001, li2000, li2001, li2002, li2003, li2004, li2005, li2006, li32767, li100000, li_neg, li13, li17, li21, li22, li28, li29, li33, li34, li35, li37, li38, li39, li46, li49, li50, li51, li52, li53, li63, li80, li115, li160]
    · rw [gI_ne (by omega)]; exact hz.2.1
    · rw [gI_ne (by omega)]; exact hz.2.2.1
    · rw [gI_ne (by omega)]; exact hz.2.2.2
  have g5 := p1.w
  have g2 := p1.b
  have g0 := p1.r
  have eP : f_Dawns_play (o + 25) p (o + 8) sd (nI ds) (nI q) (nI mm) M = (if nI (P 0 5) ≤ nI 0 then f_Dawns_play_c (o + 25) p (o + 8) sd (nI ds) (nI q) (nI mm) (sI (sI (sI (sI M1 (o + 25) 1 sd) (o + 25) 2 (nI 0)) (o + 25) 3 (nI 0)) (o + 25) 4 (nI 0)) else if nI (P 0 2) ≤ nI 0 then f_Dawns_play_c (o + 25) p (o + 8) sd (nI ds) (nI q) (nI mm) (sI (sI (sI (sI M1 (o + 25) 1 sd) (o + 25) 2 (nI 0)) (o + 25) 3 (nI 0)) (o + 25) 4 (nI 0)) else if nI (P 0 0) ≤ nI 0 then f_Dawns_play_c (o + 25) p (o + 8) sd (nI ds) (nI q) (nI mm) (sI (sI (sI (sI M1 (o + 25) 1 sd) (o + 25) 2 (nI 0)) (o + 25) 3 (nI 0)) (o + 25) 4 (nI 0)) else f_Dawns_play_b FU (o + 25) p (o + 8) sd (nI ds) (nI q) (nI mm) (nI 1) (sI (sI (sI (sI M1 (o + 25) 1 sd) (o + 25) 2 (nI 0)) (o + 25) 3 (nI 0)) (o + 25) 4 (nI 0))) := by
    rw [← g5, ← g2, ← g0]
    unfold f_Dawns_play
    rw [e1, bV_s]
    rfl
  rcases Nat.eq_zero_or_pos (P 0 5) with c5 | c5
  · obtain ⟨M', w1, w2⟩ := fin _ _ y0 f1
    refine ⟨M', ?_, ?_⟩
    · rw [eP, c5, if_pos (nI_le (by omega) (by omega))]; exact w1
    · have : yfin R L P q mm ds (sd, W, 0, 0, 0) = (sd, W, 0, 0, 0) := if_pos (Or.inl c5)
      rw [this]; exact w2
  · rcases Nat.eq_zero_or_pos (P 0 2) with c2 | c2
    · obtain ⟨M', w1, w2⟩ := fin _ _ y0 f1
      refine ⟨M', ?_, ?_⟩
      · rw [eP, if_neg (nI_ge c5 (by omega)), c2, if_pos (nI_le (by omega) (by omega))]; exact w1
      · have : yfin R L P q mm ds (sd, W, 0, 0, 0) = (sd, W, 0, 0, 0) := if_pos (Or.inr (Or.inl c2))
        rw [this]; exact w2
    · rcases Nat.eq_zero_or_pos (P 0 0) with c0 | c0
      · obtain ⟨M', w1, w2⟩ := fin _ _ y0 f1
        refine ⟨M', ?_, ?_⟩
        · rw [eP, if_neg (nI_ge c5 (by omega)), if_neg (nI_ge c2 (by omega)), c0, if_pos (nI_le (by omega) (by omega))]; exact w1
        · have : yfin R L P q mm ds (sd, W, 0, 0, 0) = (sd, W, 0, 0, 0) := if_pos (Or.inr (Or.inr c0))
          rw [this]; exact w2
      · have oPS : oPs P := ⟨oP, c0, c2, c5⟩
        have eY : yfin R L P q mm ds (sd, W, 0, 0, 0) = yrs R L P q mm ds (sd, W, 0, 0, 0) := if_neg (by omega)
        rw [eY]
        have key := lp_inv (R := Mm) (fun u i (N : Mm) => f_Dawns_play_b u (o + 25) p (o + 8) sd (nI ds) (nI q) (nI mm) (nI (1 + i)) N) ds (fun i N => YC N (o + 25) P (yrs R L P q mm i (sd, W, 0, 0, 0)) ∧ Fr (rg (o + 25) 9) M N) (fun M' => (gI M' (o + 25) 2 = nI (yrs R L P q mm ds (sd, W, 0, 0, 0)).2.2.1 ∧ gI M' (o + 25) 3 = nI (yrs R L P q mm ds (sd, W, 0, 0, 0)).2.2.2.1) ∧ (gI M' (o + 25) 4 = nI (yrs R L P q mm ds (sd, W, 0, 0, 0)).2.2.2.2 ∧ gI M' (o + 25) 5 = kp P (yrs R L P q mm ds (sd, W, 0, 0, 0)).2.1) ∧ Fr (scr o) M M') (fun u i N hi hI => ?_) (fun u N hI => ?_) 0 (by omega) _ ⟨y0, f1⟩ FU (FU_lt (by omega))
        · obtain ⟨M', w1, w2⟩ := key
          refine ⟨M', ?_, w2⟩
          rw [eP, if_neg (nI_ge c5 (by omega)), if_neg (nI_ge c2 (by omega)), if_neg (nI_ge c0 (by omega))]; exact w1
        · obtain ⟨hy, fy⟩ := hI
          have py := hP.fr fy (fun x h1 h2 => by unfold rg; omega)
          obtain ⟨N1, a1, a2, a3⟩ := C_y1 dC hy py oPS (by omega) (nI q) (nI mm)
          have hb : yb R L P (yrs R L P q mm i (sd, W, 0, 0, 0)) < P 0 2 := Nat.mod_lt _ (by omega)
          obtain ⟨N2, b1, b2', b3⟩ := C_y2 dC a2 (hP.fr (fy.trans a3) (fun x h1 h2 => by unfold rg; omega)) oPS (by omega) hq hb (nI mm) (nI (yw R L P (yrs R L P q mm i (sd, W, 0, 0, 0)))) (nI (yr R L P (yrs R L P q mm i (sd, W, 0, 0, 0))))
          obtain ⟨N3, d1, d2, d3⟩ := C_y3 (p := p) dC b2' oPS hm (nI q) (nI (yw R L P (yrs R L P q mm i (sd, W, 0, 0, 0)))) (nI (yb R L P (yrs R L P q mm i (sd, W, 0, 0, 0)))) (nI (yr R L P (yrs R L P q mm i (sd, W, 0, 0, 0))))
          have ed : f_Dawns_playDawn (o + 25) p (nI q) (nI mm) N = some N3 := a1.trans (b1.trans d1)
          have f3 := ((fy.trans a3).trans b3).trans d3
          have hk4 : nI (1 + i) - nI (1 + i) / nI 4 * nI 4 = nI ((1 + i) % 4) := pk_rem (by omega) (by omega) (by omega)
          have hm4 : (1 + i) % 4 < 4 := Nat.mod_lt _ (by omega)
          have e14 : 1 + i = i + 1 := by omega
          have eyr : yrs R L P q mm (i + 1) (sd, W, 0, 0, 0) = y4 P (i + 1) (y3 R L mm (y2 R L P q (yb R L P (yrs R L P q mm i (sd, W, 0, 0, 0))) (y1 R L P (yrs R L P q mm i (sd, W, 0, 0, 0))))) := rfl
          refine Or.inl ?_
          rw [eyr]
          generalize y3 R L mm (y2 R L P q (yb R L P (yrs R L P q mm i (sd, W, 0, 0, 0))) (y1 R L P (yrs R L P q mm i (sd, W, 0, 0, 0)))) = z at d2
          unfold y4
          by_cases c4 : (i + 1) % 4 = 0
          · rw [if_pos c4]
            obtain ⟨N4, r1, r2, r3⟩ := C_turnDay (o := o + 25 + 1) (hP.fr f3 (fun x h1 h2 => by unfold rg; omega)) oP d2.1.2.1 (by omega)
            have c4' : (1 + i) % 4 = 0 := by omega
            have g : ∀ j, gI N4 (o + 25) j = gI N3 (o + 25) j := fun j => r3.i (by unfold rg; omega) j
            refine ⟨N4, ?_, ⟨⟨by rw [g]; exact d2.1.1, r2, d2.1.2.2.nt oP⟩, by rw [g]; exact d2.2.1, by rw [g]; exact d2.2.2.1, by rw [g]; exact d2.2.2.2⟩, f3.trans (r3.mono (fun a (ha : _ ∧ _) => ⟨by omega, by omega⟩))⟩
            simp (disch := omega) only [f_Dawns_play_b, ed, hk4, c4', r1, Nat.add_assoc, bI_s, bV_s, bL_s, bR_s, bG_s, bG_n, bX_l, bX_r, ck_nI, nI_clamp, nI_leT, nI_leF, nI_ltT, nI_ltF, nI_eqF, nI_add, pk_mul, ofN, bt_e, or0, Nat.zero_add, Nat.add_zero, ↓reduceIte, if_true, if_false, Bool.false_eq_true, eq_self, li0, li1, li2, li3, li4, li5, li6, li7, li8, li9, li10, li11, li12, li14, li15, li16, li18, li19, li20, li23, li24, li25, li26, li27, li30, li31, li32, li36, li40, li41, li42, li43, li44, li45, li47, li48, li57, li59, li60, li91, li93, li96, li97, li100, li105, li122, li150, li200, li255, li400, li500, li600, li999, li1000, li1001, li2000, li2001, li2002, li2003, li2004, li2005, li2006, li32767, li100000, li_neg, li13, li17, li21, li22, li28, li29, li33, li34, li35, li37, li38, li39, li46, li49, li50, li51, li52, li53, li63, li80, li115, li160]
          · rw [if_neg c4]
            have c4' : ¬ (1 + i) % 4 = 0 := by omega
            refine ⟨N3, ?_, d2, f3⟩
            simp (disch := omega) only [f_Dawns_play_b, ed, hk4, c4', Nat.add_assoc, bI_s, bV_s, bL_s, bR_s, bG_s, bG_n, bX_l, bX_r, ck_nI, nI_clamp, nI_leT, nI_leF, nI_ltT, nI_ltF, nI_eqF, nI_add, pk_mul, ofN, bt_e, or0, Nat.zero_add, Nat.add_zero, ↓reduceIte, if_true, if_false, Bool.false_eq_true, eq_self, li0, li1, li2, li3, li4, li5, li6, li7, li8, li9, li10, li11, li12, li14, li15, li16, li18, li19, li20, li23, li24, li25, li26, li27, li30, li31, li32, li36, li40, li41, li42, li43, li44, li45, li47, li48, li57, li59, li60, li91, li93, li96, li97, li100, li105, li122, li150, li200, li255, li400, li500, li600, li999, li1000, li1001, li2000, li2001, li2002, li2003, li2004, li2005, li2006, li32767, li100000, li_neg, li13, li17, li21, li22, li28, li29, li33, li34, li35, li37, li38, li39, li46, li49, li50, li51, li52, li53, li63, li80, li115, li160]
        · obtain ⟨M', w1, w2⟩ := fin _ _ hI.1 hI.2
          refine ⟨M', ?_, w2⟩
          rw [← w1]
          simp (disch := omega) only [f_Dawns_play_b, bI_s, bV_s, bL_s, bR_s, bG_s, bG_n, bX_l, bX_r, ck_nI, nI_clamp, nI_leT, nI_leF, nI_ltT, nI_ltF, nI_eqF, nI_add, pk_mul, ofN, bt_e, or0, Nat.zero_add, Nat.add_zero, ↓reduceIte, if_true, if_false, Bool.false_eq_true, eq_self, li0, li1, li2, li3, li4, li5, li6, li7, li8, li9, li10, li11, li12, li14, li15, li16, li18, li19, li20, li23, li24, li25, li26, li27, li30, li31, li32, li36, li40, li41, li42, li43, li44, li45, li47, li48, li57, li59, li60, li91, li93, li96, li97, li100, li105, li122, li150, li200, li255, li400, li500, li600, li999, li1000, li1001, li2000, li2001, li2002, li2003, li2004, li2005, li2006, li32767, li100000, li_neg, li13, li17, li21, li22, li28, li29, li33, li34, li35, li37, li38, li39, li46, li49, li50, li51, li52, li53, li63, li80, li115, li160]
theorem M_yearsBy (dM : DM R L) (hQ : isQ N m P) (oP : okP P) (hN : isN N (m + 470) P W) (oW : okW P W) {ds q mm : Nat} (hds : ds ≤ 96) (hq : q ≤ 16) (hm : mm ≤ 16) (sd : Int32) : ∃ N', f_M_yearsBy m sd (nI ds) (nI q) (nI mm) N = some N' ∧ YM N' m P (yfin R L P q mm ds (sd, W, 0, 0, 0)) ∧ FY m N N' := by
  have b0 := oP.r
  have b2 := oP.b
  have b5 := oP.w
  obtain ⟨M1, e1, e2, e3⟩ := M_copies (M := N) (a := m + 470) (b := m + 471) (by omega)
  have F1 : FY m N (sI (sI (sI M1 m 51 sd) m 52 (nI 0)) m 53 (nI 0)) := ((((FY.rf m N).row e3).sI (by omega)).sI (by omega)).sI (by omega)
  have y0 : YM (sI (sI (sI M1 m 51 sd) m 52 (nI 0)) m 53 (nI 0)) m P (sd, W, 0, 0, 0) := by
    refine ⟨⟨?_, ?_, oW⟩, ?_, gI_same ..⟩
    · rw [gI_ne (by omega), gI_ne (by omega)]; exact gI_same ..
    · have : isN M1 (m + 471) P W := hN.cpy oP oW e2
      exact this.fr ((((Fr.rf (fun x => x = m) M1).sI rfl).sI rfl).sI rfl) (by omega)
    · rw [gI_ne (by omega)]; exact gI_same ..
  have q1 := F1.isQ hQ oP
  rcases Nat.eq_zero_or_pos (P 0 0) with c0 | c0
  · refine ⟨_, ?_, ?_, F1⟩
    · have g := q1.r
      rw [c0] at g
      simp (disch := omega) only [f_M_yearsBy, e1, g, bI_s, bV_s, bL_s, bR_s, bG_s, bG_n, bX_l, bX_r, ck_nI, nI_clamp, nI_leT, nI_leF, nI_ltT, nI_ltF, nI_eqF, nI_add, pk_mul, ofN, bt_e, or0, Nat.zero_add, Nat.add_zero, ↓reduceIte, if_true, if_false, Bool.false_eq_true, eq_self, li0, li1, li2, li3, li4, li5, li6, li7, li8, li9, li10, li11, li12, li14, li15, li16, li18, li19, li20, li23, li24, li25, li26, li27, li30, li31, li32, li36, li40, li41, li42, li43, li44, li45, li47, li48, li57, li59, li60, li91, li93, li96, li97, li100, li105, li122, li150, li200, li255, li400, li500, li600, li999, li1000, li1001, li2000, li2001, li2002, li2003, li2004, li2005, li2006, li32767, li100000, li_neg, li13, li17, li21, li22, li28, li29, li33, li34, li35, li37, li38, li39, li46, li49, li50, li51, li52, li53, li63, li80, li115, li160]
    · have : yfin R L P q mm ds (sd, W, 0, 0, 0) = (sd, W, 0, 0, 0) := if_pos (Or.inr (Or.inr c0))
      rw [this]; exact y0
  · rcases Nat.eq_zero_or_pos (P 0 2) with c2 | c2
    · refine ⟨_, ?_, ?_, F1⟩
      · have g := q1.b
        rw [c2] at g
        have g0 := q1.r
        simp (disch := omega) only [f_M_yearsBy, e1, g, g0, bI_s, bV_s, bL_s, bR_s, bG_s, bG_n, bX_l, bX_r, ck_nI, nI_clamp, nI_leT, nI_leF, nI_ltT, nI_ltF, nI_eqF, nI_add, pk_mul, ofN, bt_e, or0, Nat.zero_add, Nat.add_zero, ↓reduceIte, if_true, if_false, Bool.false_eq_true, eq_self, li0, li1, li2, li3, li4, li5, li6, li7, li8, li9, li10, li11, li12, li14, li15, li16, li18, li19, li20, li23, li24, li25, li26, li27, li30, li31, li32, li36, li40, li41, li42, li43, li44, li45, li47, li48, li57, li59, li60, li91, li93, li96, li97, li100, li105, li122, li150, li200, li255, li400, li500, li600, li999, li1000, li1001, li2000, li2001, li2002, li2003, li2004, li2005, li2006, li32767, li100000, li_neg, li13, li17, li21, li22, li28, li29, li33, li34, li35, li37, li38, li39, li46, li49, li50, li51, li52, li53, li63, li80, li115, li160]
      · have : yfin R L P q mm ds (sd, W, 0, 0, 0) = (sd, W, 0, 0, 0) := if_pos (Or.inr (Or.inl c2))
        rw [this]; exact y0
    · rcases Nat.eq_zero_or_pos (P 0 5) with c5 | c5
      · refine ⟨_, ?_, ?_, F1⟩
        · have g := q1.w
          rw [c5] at g
          have g0 := q1.r
          have g2 := q1.b
          simp (disch := omega) only [f_M_yearsBy, e1, g, g0, g2, bI_s, bV_s, bL_s, bR_s, bG_s, bG_n, bX_l, bX_r, ck_nI, nI_clamp, nI_leT, nI_leF, nI_ltT, nI_ltF, nI_eqF, nI_add, pk_mul, ofN, bt_e, or0, Nat.zero_add, Nat.add_zero, ↓reduceIte, if_true, if_false, Bool.false_eq_true, eq_self, li0, li1, li2, li3, li4, li5, li6, li7, li8, li9, li10, li11, li12, li14, li15, li16, li18, li19, li20, li23, li24, li25, li26, li27, li30, li31, li32, li36, li40, li41, li42, li43, li44, li45, li47, li48, li57, li59, li60, li91, li93, li96, li97, li100, li105, li122, li150, li200, li255, li400, li500, li600, li999, li1000, li1001, li2000, li2001, li2002, li2003, li2004, li2005, li2006, li32767, li100000, li_neg, li13, li17, li21, li22, li28, li29, li33, li34, li35, li37, li38, li39, li46, li49, li50, li51, li52, li53, li63, li80, li115, li160]
        · have : yfin R L P q mm ds (sd, W, 0, 0, 0) = (sd, W, 0, 0, 0) := if_pos (Or.inl c5)
          rw [this]; exact y0
      · have oPS : oPs P := ⟨oP, c0, c2, c5⟩
        have eY : yfin R L P q mm ds (sd, W, 0, 0, 0) = yrs R L P q mm ds (sd, W, 0, 0, 0) := if_neg (by omega)
        rw [eY]
        have key := lp_inv (R := Mm) (fun u i (N' : Mm) => f_M_yearsBy_b u m sd (nI ds) (nI q) (nI mm) (nI (1 + i)) N') ds (fun i N' => YM N' m P (yrs R L P q mm i (sd, W, 0, 0, 0)) ∧ FY m N N') (fun N' => YM N' m P (yrs R L P q mm ds (sd, W, 0, 0, 0)) ∧ FY m N N') (fun u i N' hi hI => ?_) (fun u N' hI => ?_) 0 (by omega) _ ⟨y0, F1⟩ FU (FU_lt (by omega))
        · obtain ⟨M', w1, w2⟩ := key
          refine ⟨M', ?_, w2⟩
          rw [← w1]
          have g5 := q1.w
          have g0 := q1.r
          have g2 := q1.b
          simp (disch := omega) only [f_M_yearsBy, e1, g5, g0, g2, bI_s, bV_s, bL_s, bR_s, bG_s, bG_n, bX_l, bX_r, ck_nI, nI_clamp, nI_leT, nI_leF, nI_ltT, nI_ltF, nI_eqF, nI_add, pk_mul, ofN, bt_e, or0, Nat.zero_add, Nat.add_zero, ↓reduceIte, if_true, if_false, Bool.false_eq_true, eq_self, li0, li1, li2, li3, li4, li5, li6, li7, li8, li9, li10, li11, li12, li14, li15, li16, li18, li19, li20, li23, li24, li25, li26, li27, li30, li31, li32, li36, li40, li41, li42, li43, li44, li45, li47, li48, li57, li59, li60, li91, li93, li96, li97, li100, li105, li122, li150, li200, li255, li400, li500, li600, li999, li1000, li1001, li2000, li2001, li2002, li2003, li2004, li2005, li2006, li32767, li100000, li_neg, li13, li17, li21, li22, li28, li29, li33, li34, li35, li37, li38, li39, li46, li49, li50, li51, li52, li53, li63, li80, li115, li160]
        · obtain ⟨N2, a1, a2, a3⟩ := M_dwn dM hI.1 (hI.2.isQ hQ oP) oPS hq hm (show 1 + i ≤ ds by omega) hds sd u
          refine Or.inl ⟨N2, ?_, ?_, hI.2.trans a3⟩
          · have : 1 + (i + 1) = 1 + i + 1 := by omega
            rw [this]; exact a1
          · have : 1 + i = i + 1 := by omega
            rw [this] at a2; exact a2
        · refine ⟨N', ?_, hI⟩
          simp (disch := omega) only [f_M_yearsBy_b, bI_s, bV_s, bL_s, bR_s, bG_s, bG_n, bX_l, bX_r, ck_nI, nI_clamp, nI_leT, nI_leF, nI_ltT, nI_ltF, nI_eqF, nI_add, pk_mul, ofN, bt_e, or0, Nat.zero_add, Nat.add_zero, ↓reduceIte, if_true, if_false, Bool.false_eq_true, eq_self, li0, li1, li2, li3, li4, li5, li6, li7, li8, li9, li10, li11, li12, li14, li15, li16, li18, li19, li20, li23, li24, li25, li26, li27, li30, li31, li32, li36, li40, li41, li42, li43, li44, li45, li47, li48, li57, li59, li60, li91, li93, li96, li97, li100, li105, li122, li150, li200, li255, li400, li500, li600, li999, li1000, li1001, li2000, li2001, li2002, li2003, li2004, li2005, li2006, li32767, li100000, li_neg, li13, li17, li21, li22, li28, li29, li33, li34, li35, li37, li38, li39, li46, li49, li50, li51, li52, li53, li63, li80, li115, li160]
end
