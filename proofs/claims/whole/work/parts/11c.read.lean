/-! # functional level, 4: counts, letters, acts, who knows, shares, crews -/
section
variable {M : Mm} {p m o a : Nat} {P W : TT}
theorem C_timesIn {a n v : Nat} {f : Nat → Nat} (hn : n ≤ 20) (hv : v < 2 ^ 31) (h : ∀ k, k < n → gI M a k = nI (f k) ∧ f k < 2 ^ 31) : f_Wall_timesIn a 20 (nI n) (nI v) M = some (nI (sm n (fun k => if f k = v then 1 else 0)), M) := by
  refine lp_up (fun u i s => f_Wall_timesIn_b u a 20 (nI n) (nI v) (nI s) (nI i) M) n (fun k s => s + if f k = v then 1 else 0) _ 0 (fun u i s hi => ?_) (fun u => ?_) FU (FU_lt (by omega))
  · obtain ⟨h1, h2⟩ := h i hi
    by_cases c : f i = v
    · simp (disch := omega) only [f_Wall_timesIn_b, h1, c, bI_s, bV_s, bL_s, bR_s, bG_s, bG_n, bX_l, bX_r, ck_nI, nI_clamp, nI_leT, nI_leF, nI_ltT, nI_ltF, nI_eqF, nI_add, pk_mul, ofN, bt_e, or0, Nat.zero_add, Nat.add_zero, ↓reduceIte, if_true, if_false, Bool.false_eq_true, eq_self, li0, li1, li2, li3, li4, li5, li6, li7, li8, li9, li10, li11, li12, li14, li15, li16, li18, li19, li20, li23, li24, li25, li26, li27, li30, li31, li32, li36, li40, li41, li42, li43, li44, li45, li47, li48, li57, li59, li60, li91, li93, li96, li97, li100, li105, li122, li150, li200, li255, li400, li500, li600, li999, li1000, li1001, li2000, li2001, li2002, li2003, li2004, li2005, li2006, li32767, li100000, li_neg]
    · simp (disch := omega) only [f_Wall_timesIn_b, h1, c, bI_s, bV_s, bL_s, bR_s, bG_s, bG_n, bX_l, bX_r, ck_nI, nI_clamp, nI_leT, nI_leF, nI_ltT, nI_ltF, nI_eqF, nI_add, pk_mul, ofN, bt_e, or0, Nat.zero_add, Nat.add_zero, ↓reduceIte, if_true, if_false, Bool.false_eq_true, eq_self, li0, li1, li2, li3, li4, li5, li6, li7, li8, li9, li10, li11, li12, li14, li15, li16, li18, li19, li20, li23, li24, li25, li26, li27, li30, li31, li32, li36, li40, li41, li42, li43, li44, li45, li47, li48, li57, li59, li60, li91, li93, li96, li97, li100, li105, li122, li150, li200, li255, li400, li500, li600, li999, li1000, li1001, li2000, li2001, li2002, li2003, li2004, li2005, li2006, li32767, li100000, li_neg]
  · simp (disch := omega) only [f_Wall_timesIn_b, bI_s, bV_s, bL_s, bR_s, bG_s, bG_n, bX_l, bX_r, ck_nI, nI_clamp, nI_leT, nI_leF, nI_ltT, nI_ltF, nI_eqF, nI_add, pk_mul, ofN, bt_e, or0, Nat.zero_add, Nat.add_zero, ↓reduceIte, if_true, if_false, Bool.false_eq_true, eq_self, li0, li1, li2, li3, li4, li5, li6, li7, li8, li9, li10, li11, li12, li14, li15, li16, li18, li19, li20, li23, li24, li25, li26, li27, li30, li31, li32, li36, li40, li41, li42, li43, li44, li45, li47, li48, li57, li59, li60, li91, li93, li96, li97, li100, li105, li122, li150, li200, li255, li400, li500, li600, li999, li1000, li1001, li2000, li2001, li2002, li2003, li2004, li2005, li2006, li32767, li100000, li_neg]
    rw [fo_sm _ (fun k s _ => rfl)]
/-- how many lines have v at j -/
def cn (W : TT) (j v : Nat) : Nat := sm (W 0 2) (fun k => if W j k = v then 1 else 0)
theorem C_linesOn (hW : isW M o P W) (oP : okP P) (oW : okW P W) {v : Nat} (hv : v < 2 ^ 31) : f_Wall_linesOn o (nI v) M = some (nI (cn W 3 v), M) := by
  have h4 := oP.r
  have := C_timesIn (M := M) (a := o + 3) (n := W 0 2) (v := v) (f := W 3) oW.l hv (fun k hk => ⟨hW.r hk, by have := oW.r hk; omega⟩)
  simp only [f_Wall_linesOn, hW.l, this, bI_s, bV_s, bL_s, bR_s, bG_s, bG_n, bX_l, bX_r, ck_nI, nI_clamp, nI_leT, nI_leF, nI_ltT, nI_ltF, nI_eqF, nI_add, pk_mul, ofN, bt_e, or0, Nat.zero_add, Nat.add_zero, ↓reduceIte, if_true, if_false, Bool.false_eq_true, eq_self, li0, li1, li2, li3, li4, li5, li6, li7, li8, li9, li10, li11, li12, li14, li15, li16, li18, li19, li20, li23, li24, li25, li26, li27, li30, li31, li32, li36, li40, li41, li42, li43, li44, li45, li47, li48, li57, li59, li60, li91, li93, li96, li97, li100, li105, li122, li150, li200, li255, li400, li500, li600, li999, li1000, li1001, li2000, li2001, li2002, li2003, li2004, li2005, li2006, li32767, li100000, li_neg]; rfl
theorem C_linesOfBid (hW : isW M o P W) (oP : okP P) (oW : okW P W) {v : Nat} (hv : v < 2 ^ 31) : f_Wall_linesOfBid o (nI v) M = some (nI (cn W 1 v), M) := by
  have h4 := oP.b
  have := C_timesIn (M := M) (a := o + 1) (n := W 0 2) (v := v) (f := W 1) oW.l hv (fun k hk => ⟨hW.b hk, by have := oW.b hk; omega⟩)
  simp only [f_Wall_linesOfBid, hW.l, this, bI_s, bV_s, bL_s, bR_s, bG_s, bG_n, bX_l, bX_r, ck_nI, nI_clamp, nI_leT, nI_leF, nI_ltT, nI_ltF, nI_eqF, nI_add, pk_mul, ofN, bt_e, or0, Nat.zero_add, Nat.add_zero, ↓reduceIte, if_true, if_false, Bool.false_eq_true, eq_self, li0, li1, li2, li3, li4, li5, li6, li7, li8, li9, li10, li11, li12, li14, li15, li16, li18, li19, li20, li23, li24, li25, li26, li27, li30, li31, li32, li36, li40, li41, li42, li43, li44, li45, li47, li48, li57, li59, li60, li91, li93, li96, li97, li100, li105, li122, li150, li200, li255, li400, li500, li600, li999, li1000, li1001, li2000, li2001, li2002, li2003, li2004, li2005, li2006, li32767, li100000, li_neg]; rfl
theorem C_linesBy (hW : isW M o P W) (oP : okP P) (oW : okW P W) {v : Nat} (hv : v < 2 ^ 31) : f_Wall_linesBy o (nI v) M = some (nI (cn W 4 v), M) := by
  have h4 := oP.w
  have := C_timesIn (M := M) (a := o + 4) (n := W 0 2) (v := v) (f := W 4) oW.l hv (fun k hk => ⟨hW.w hk, by have := oW.w hk; omega⟩)
  simp only [f_Wall_linesBy, hW.l, this, bI_s, bV_s, bL_s, bR_s, bG_s, bG_n, bX_l, bX_r, ck_nI, nI_clamp, nI_leT, nI_leF, nI_ltT, nI_ltF, nI_eqF, nI_add, pk_mul, ofN, bt_e, or0, Nat.zero_add, Nat.add_zero, ↓reduceIte, if_true, if_false, Bool.false_eq_true, eq_self, li0, li1, li2, li3, li4, li5, li6, li7, li8, li9, li10, li11, li12, li14, li15, li16, li18, li19, li20, li23, li24, li25, li26, li27, li30, li31, li32, li36, li40, li41, li42, li43, li44, li45, li47, li48, li57, li59, li60, li91, li93, li96, li97, li100, li105, li122, li150, li200, li255, li400, li500, li600, li999, li1000, li1001, li2000, li2001, li2002, li2003, li2004, li2005, li2006, li32767, li100000, li_neg]; rfl
theorem M_linesWith (hN : isN M (m + 470) P W) (oP : okP P) (oW : okW P W) {v j : Nat} (hv : v < 2 ^ 31) (hj : j < 4) : f_M_linesWith m (nI j) (nI v) M = some (nI (cn W (j + 1) v), M) := by
  have oL := oW.l
  have hR := oP.r
  have hB := oP.b
  have hWr := oP.w
  refine lp_up (fun u i s => f_M_linesWith_b u m (nI j) (nI v) (nI s) (nI i) M) (W 0 2) (fun k s => s + if W (j + 1) k = v then 1 else 0) _ 0 (fun u i s hi => ?_) (fun u => ?_) FU (FU_lt (by omega))
  · have hl : f_M_lineOf (m + 470) 105 (nI i) (nI j) M = some (nI (W (j + 1) i), M) := by
      obtain ⟨⟨e0, e1⟩, e2, e3⟩ := M_lineOf hN oW hi
      match j, hj with
      | 0, _ => exact e0
      | 1, _ => exact e1
      | 2, _ => exact e2
      | 3, _ => exact e3
    have hb : W (j + 1) i < 2 ^ 31 := by
      have := oW.b hi; have := oW.ac hi; have := oW.r hi; have := oW.w hi
      match j, hj with
      | 0, _ => show W 1 i < 2 ^ 31; omega
      | 1, _ => show W 2 i < 2 ^ 31; omega
      | 2, _ => show W 3 i < 2 ^ 31; omega
      | 3, _ => show W 4 i < 2 ^ 31; omega
    by_cases c : W (j + 1) i = v
    · simp (disch := omega) only [f_M_linesWith_b, hN.l, hl, c, bI_s, bV_s, bL_s, bR_s, bG_s, bG_n, bX_l, bX_r, ck_nI, nI_clamp, nI_leT, nI_leF, nI_ltT, nI_ltF, nI_eqF, nI_add, pk_mul, ofN, bt_e, or0, Nat.zero_add, Nat.add_zero, ↓reduceIte, if_true, if_false, Bool.false_eq_true, eq_self, li0, li1, li2, li3, li4, li5, li6, li7, li8, li9, li10, li11, li12, li14, li15, li16, li18, li19, li20, li23, li24, li25, li26, li27, li30, li31, li32, li36, li40, li41, li42, li43, li44, li45, li47, li48, li57, li59, li60, li91, li93, li96, li97, li100, li105, li122, li150, li200, li255, li400, li500, li600, li999, li1000, li1001, li2000, li2001, li2002, li2003, li2004, li2005, li2006, li32767, li100000, li_neg]
    · simp (disch := omega) only [f_M_linesWith_b, hN.l, hl, c, bI_s, bV_s, bL_s, bR_s, bG_s, bG_n, bX_l, bX_r, ck_nI, nI_clamp, nI_leT, nI_leF, nI_ltT, nI_ltF, nI_eqF, nI_add, pk_mul, ofN, bt_e, or0, Nat.zero_add, Nat.add_zero, ↓reduceIte, if_true, if_false, Bool.false_eq_true, eq_self, li0, li1, li2, li3, li4, li5, li6, li7, li8, li9, li10, li11, li12, li14, li15, li16, li18, li19, li20, li23, li24, li25, li26, li27, li30, li31, li32, li36, li40, li41, li42, li43, li44, li45, li47, li48, li57, li59, li60, li91, li93, li96, li97, li100, li105, li122, li150, li200, li255, li400, li500, li600, li999, li1000, li1001, li2000, li2001, li2002, li2003, li2004, li2005, li2006, li32767, li100000, li_neg]
  · simp (disch := omega) only [f_M_linesWith_b, hN.l, bI_s, bV_s, bL_s, bR_s, bG_s, bG_n, bX_l, bX_r, ck_nI, nI_clamp, nI_leT, nI_leF, nI_ltT, nI_ltF, nI_eqF, nI_add, pk_mul, ofN, bt_e, or0, Nat.zero_add, Nat.add_zero, ↓reduceIte, if_true, if_false, Bool.false_eq_true, eq_self, li0, li1, li2, li3, li4, li5, li6, li7, li8, li9, li10, li11, li12, li14, li15, li16, li18, li19, li20, li23, li24, li25, li26, li27, li30, li31, li32, li36, li40, li41, li42, li43, li44, li45, li47, li48, li57, li59, li60, li91, li93, li96, li97, li100, li105, li122, li150, li200, li255, li400, li500, li600, li999, li1000, li1001, li2000, li2001, li2002, li2003, li2004, li2005, li2006, li32767, li100000, li_neg]
    rw [fo_sm _ (fun k s _ => rfl)]; rfl
/-! letters from a row on -/
def lf (P W : TT) (r : Nat) : Nat := sm (W 0 2) (fun k => if W 3 k < r then 0 else P 3 (W 1 k))
theorem sm_pick (r v c : Nat) : ∀ n : Nat, sm n (fun i => if v = r + i then c else 0) = if r ≤ v ∧ v < r + n then c else 0
  | 0 => by rw [if_neg (by omega)]; rfl
  | n + 1 => by
    show sm n (fun i => if v = r + i then c else 0) + (if v = r + n then c else 0) = _
    rw [sm_pick r v c n]
    by_cases h : v = r + n
    · rw [if_neg (by omega), if_pos h, if_pos (by omega)]; omega
    · rw [if_neg h]
      by_cases h2 : r ≤ v ∧ v < r + n
      · rw [if_pos h2, if_pos (by omega)]; rfl
      · rw [if_neg h2, if_neg (by omega)]
theorem lf_rows (oW : okW P W) (r : Nat) : sm (P 0 0 - r) (fun i => ltr P W (r + i)) = lf P W r := by
  unfold ltr lf
  rw [sm_swap]
  refine sm_congr _ (fun k hk => ?_)
  rw [sm_pick]
  have := oW.r hk
  by_cases h : W 3 k < r
  · rw [if_pos h, if_neg (by omega)]
  · rw [if_neg h, if_pos (by omega)]
theorem C_lettersFrom (hP : isP M p P) (oP : okP P) (hW : isW M o P W) (oW : okW P W) {r : Nat} (hr : r ≤ 4) : f_Wall_lettersFrom o p (nI r) M = some (nI (lf P W r), M) := by
  have hR := oP.r
  have key := lp_up (fun u i s => f_Wall_lettersFrom_b u o p (nI r) (nI s) (nI (r + i)) M) (P 0 0 - r) (fun k s => s + ltr P W (r + k)) (some (nI (lf P W r), M)) 0 (fun u i s hi => ?_) (fun u => ?_) FU (FU_lt (by omega))
  · exact key
  · simp (disch := omega) only [f_Wall_lettersFrom_b, hP.r, C_lettersOn hP oP hW oW (show r + i < 2 ^ 31 by omega), Nat.add_assoc, bI_s, bV_s, bL_s, bR_s, bG_s, bG_n, bX_l, bX_r, ck_nI, nI_clamp, nI_leT, nI_leF, nI_ltT, nI_ltF, nI_eqF, nI_add, pk_mul, ofN, bt_e, or0, Nat.zero_add, Nat.add_zero, ↓reduceIte, if_true, if_false, Bool.false_eq_true, eq_self, li0, li1, li2, li3, li4, li5, li6, li7, li8, li9, li10, li11, li12, li14, li15, li16, li18, li19, li20, li23, li24, li25, li26, li27, li30, li31, li32, li36, li40, li41, li42, li43, li44, li45, li47, li48, li57, li59, li60, li91, li93, li96, li97, li100, li105, li122, li150, li200, li255, li400, li500, li600, li999, li1000, li1001, li2000, li2001, li2002, li2003, li2004, li2005, li2006, li32767, li100000, li_neg]
  · simp (disch := omega) only [f_Wall_lettersFrom_b, hP.r, bI_s, bV_s, bL_s, bR_s, bG_s, bG_n, bX_l, bX_r, ck_nI, nI_clamp, nI_leT, nI_leF, nI_ltT, nI_ltF, nI_eqF, nI_add, pk_mul, ofN, bt_e, or0, Nat.zero_add, Nat.add_zero, ↓reduceIte, if_true, if_false, Bool.false_eq_true, eq_self, li0, li1, li2, li3, li4, li5, li6, li7, li8, li9, li10, li11, li12, li14, li15, li16, li18, li19, li20, li23, li24, li25, li26, li27, li30, li31, li32, li36, li40, li41, li42, li43, li44, li45, li47, li48, li57, li59, li60, li91, li93, li96, li97, li100, li105, li122, li150, li200, li255, li400, li500, li600, li999, li1000, li1001, li2000, li2001, li2002, li2003, li2004, li2005, li2006, li32767, li100000, li_neg]
    rw [fo_sm _ (fun k s _ => rfl), lf_rows oW]
theorem M_lettersFrom (hQ : isQ M m P) (oP : okP P) (hN : isN M (m + 470) P W) (oW : okW P W) {r : Nat} (hr : r ≤ 4) : f_M_lettersFrom m (nI r) M = some (nI (lf P W r), M) := by
  have oL := oW.l
  have hB := oP.b
  have hR := oP.r
  refine lp_up (fun u i s => f_M_lettersFrom_b u m (nI r) (nI s) (nI i) M) (W 0 2) (fun k s => s + if W 3 k < r then 0 else P 3 (W 1 k)) _ 0 (fun u i s hi => ?_) (fun u => ?_) FU (FU_lt (by omega))
  · have h1 := oW.b hi
    have h3 := oW.r hi
    by_cases c : W 3 i < r
    · simp (disch := omega) only [f_M_lettersFrom_b, hN.l, (M_lineOf hN oW hi).1.1, (M_lineOf hN oW hi).2.1, hQ.len h1, c, bI_s, bV_s, bL_s, bR_s, bG_s, bG_n, bX_l, bX_r, ck_nI, nI_clamp, nI_leT, nI_leF, nI_ltT, nI_ltF, nI_eqF, nI_add, pk_mul, ofN, bt_e, or0, Nat.zero_add, Nat.add_zero, ↓reduceIte, if_true, if_false, Bool.false_eq_true, eq_self, li0, li1, li2, li3, li4, li5, li6, li7, li8, li9, li10, li11, li12, li14, li15, li16, li18, li19, li20, li23, li24, li25, li26, li27, li30, li31, li32, li36, li40, li41, li42, li43, li44, li45, li47, li48, li57, li59, li60, li91, li93, li96, li97, li100, li105, li122, li150, li200, li255, li400, li500, li600, li999, li1000, li1001, li2000, li2001, li2002, li2003, li2004, li2005, li2006, li32767, li100000, li_neg]
    · simp (disch := omega) only [f_M_lettersFrom_b, hN.l, (M_lineOf hN oW hi).1.1, (M_lineOf hN oW hi).2.1, hQ.len h1, c, bI_s, bV_s, bL_s, bR_s, bG_s, bG_n, bX_l, bX_r, ck_nI, nI_clamp, nI_leT, nI_leF, nI_ltT, nI_ltF, nI_eqF, nI_add, pk_mul, ofN, bt_e, or0, Nat.zero_add, Nat.add_zero, ↓reduceIte, if_true, if_false, Bool.false_eq_true, eq_self, li0, li1, li2, li3, li4, li5, li6, li7, li8, li9, li10, li11, li12, li14, li15, li16, li18, li19, li20, li23, li24, li25, li26, li27, li30, li31, li32, li36, li40, li41, li42, li43, li44, li45, li47, li48, li57, li59, li60, li91, li93, li96, li97, li100, li105, li122, li150, li200, li255, li400, li500, li600, li999, li1000, li1001, li2000, li2001, li2002, li2003, li2004, li2005, li2006, li32767, li100000, li_neg]
  · simp (disch := omega) only [f_M_lettersFrom_b, hN.l, bI_s, bV_s, bL_s, bR_s, bG_s, bG_n, bX_l, bX_r, ck_nI, nI_clamp, nI_leT, nI_leF, nI_ltT, nI_ltF, nI_eqF, nI_add, pk_mul, ofN, bt_e, or0, Nat.zero_add, Nat.add_zero, ↓reduceIte, if_true, if_false, Bool.false_eq_true, eq_self, li0, li1, li2, li3, li4, li5, li6, li7, li8, li9, li10, li11, li12, li14, li15, li16, li18, li19, li20, li23, li24, li25, li26, li27, li30, li31, li32, li36, li40, li41, li42, li43, li44, li45, li47, li48, li57, li59, li60, li91, li93, li96, li97, li100, li105, li122, li150, li200, li255, li400, li500, li600, li999, li1000, li1001, li2000, li2001, li2002, li2003, li2004, li2005, li2006, li32767, li100000, li_neg]
    rw [fo_sm _ (fun k s _ => rfl)]; rfl
/-! acts on a row -/
def oa (W : TT) (r : Nat) : Int32 := fo (W 0 2) (fun k s => if W 3 k = r then s ||| bt (W 2 k) else s) (nI 0)
theorem C_actsOn (hW : isW M o P W) (oP : okP P) (oW : okW P W) {r : Nat} (hr : r < 2 ^ 31) : f_Wall_actsOn o (nI r) M = some (oa W r, M) := by
  have oL := oW.l
  have hR := oP.r
  have hx := lp_up (fun u i s => f_Wall_actsOn_b u o (nI r) s (nI i) M) (W 0 2) (fun k s => if W 3 k = r then s ||| bt (W 2 k) else s) (some (oa W r, M)) (nI 0) (fun u i s hi => ?_) (fun u => ?_) FU (FU_lt (by omega))
  · exact hx
  · have h3 := oW.r hi
    by_cases c : W 3 i = r
    · simp (disch := omega) only [f_Wall_actsOn_b, hW.l, hW.r hi, hW.ac hi, c, bI_s, bV_s, bL_s, bR_s, bG_s, bG_n, bX_l, bX_r, ck_nI, nI_clamp, nI_leT, nI_leF, nI_ltT, nI_ltF, nI_eqF, nI_add, pk_mul, ofN, bt_e, or0, Nat.zero_add, Nat.add_zero, ↓reduceIte, if_true, if_false, Bool.false_eq_true, eq_self, li0, li1, li2, li3, li4, li5, li6, li7, li8, li9, li10, li11, li12, li14, li15, li16, li18, li19, li20, li23, li24, li25, li26, li27, li30, li31, li32, li36, li40, li41, li42, li43, li44, li45, li47, li48, li57, li59, li60, li91, li93, li96, li97, li100, li105, li122, li150, li200, li255, li400, li500, li600, li999, li1000, li1001, li2000, li2001, li2002, li2003, li2004, li2005, li2006, li32767, li100000, li_neg]
    · simp (disch := omega) only [f_Wall_actsOn_b, hW.l, hW.r hi, hW.ac hi, c, bI_s, bV_s, bL_s, bR_s, bG_s, bG_n, bX_l, bX_r, ck_nI, nI_clamp, nI_leT, nI_leF, nI_ltT, nI_ltF, nI_eqF, nI_add, pk_mul, ofN, bt_e, or0, Nat.zero_add, Nat.add_zero, ↓reduceIte, if_true, if_false, Bool.false_eq_true, eq_self, li0, li1, li2, li3, li4, li5, li6, li7, li8, li9, li10, li11, li12, li14, li15, li16, li18, li19, li20, li23, li24, li25, li26, li27, li30, li31, li32, li36, li40, li41, li42, li43, li44, li45, li47, li48, li57, li59, li60, li91, li93, li96, li97, li100, li105, li122, li150, li200, li255, li400, li500, li600, li999, li1000, li1001, li2000, li2001, li2002, li2003, li2004, li2005, li2006, li32767, li100000, li_neg]
  · simp (disch := omega) only [f_Wall_actsOn_b, hW.l, bI_s, bV_s, bL_s, bR_s, bG_s, bG_n, bX_l, bX_r, ck_nI, nI_clamp, nI_leT, nI_leF, nI_ltT, nI_ltF, nI_eqF, nI_add, pk_mul, ofN, bt_e, or0, Nat.zero_add, Nat.add_zero, ↓reduceIte, if_true, if_false, Bool.false_eq_true, eq_self, li0, li1, li2, li3, li4, li5, li6, li7, li8, li9, li10, li11, li12, li14, li15, li16, li18, li19, li20, li23, li24, li25, li26, li27, li30, li31, li32, li36, li40, li41, li42, li43, li44, li45, li47, li48, li57, li59, li60, li91, li93, li96, li97, li100, li105, li122, li150, li200, li255, li400, li500, li600, li999, li1000, li1001, li2000, li2001, li2002, li2003, li2004, li2005, li2006, li32767, li100000, li_neg]; rfl
/-- what row() answers -/
def aRow (P W : TT) (r j : Nat) : Int32 := if j = 0 then nI (P 1 r) else if j = 1 then nI (P 1 r - ltr P W r) else if j = 2 then nI (cn W 3 r) else oa W r
theorem M_row_d (hQ : isQ M m P) (oP : okP P) (hN : isN M (m + 470) P W) (oW : okW P W) {r j : Nat} (hr : r < P 0 0) (hj : j < 4) : f_M_row_d FU m (nI r) (nI j) (nI 0) (nI 0) M = some (aRow P W r j, M) := by
  have oL := oW.l
  have hR := oP.r
  have hx := lp_up (fun u i s => f_M_row_d u m (nI r) (nI j) s (nI i) M) (W 0 2) (fun k s => if W 3 k = r then s ||| bt (W 2 k) else s) (some (aRow P W r j, M)) (nI 0) (fun u i s hi => ?_) (fun u => ?_) FU (FU_lt (by omega))
  · exact hx
  · have h3 := oW.r hi
    by_cases c : W 3 i = r
    · simp (disch := omega) only [f_M_row_d, hN.l, (M_lineOf hN oW hi).1.2, (M_lineOf hN oW hi).2.1, c, bI_s, bV_s, bL_s, bR_s, bG_s, bG_n, bX_l, bX_r, ck_nI, nI_clamp, nI_leT, nI_leF, nI_ltT, nI_ltF, nI_eqF, nI_add, pk_mul, ofN, bt_e, or0, Nat.zero_add, Nat.add_zero, ↓reduceIte, if_true, if_false, Bool.false_eq_true, eq_self, li0, li1, li2, li3, li4, li5, li6, li7, li8, li9, li10, li11, li12, li14, li15, li16, li18, li19, li20, li23, li24, li25, li26, li27, li30, li31, li32, li36, li40, li41, li42, li43, li44, li45, li47, li48, li57, li59, li60, li91, li93, li96, li97, li100, li105, li122, li150, li200, li255, li400, li500, li600, li999, li1000, li1001, li2000, li2001, li2002, li2003, li2004, li2005, li2006, li32767, li100000, li_neg]
    · simp (disch := omega) only [f_M_row_d, hN.l, (M_lineOf hN oW hi).1.2, (M_lineOf hN oW hi).2.1, c, bI_s, bV_s, bL_s, bR_s, bG_s, bG_n, bX_l, bX_r, ck_nI, nI_clamp, nI_leT, nI_leF, nI_ltT, nI_ltF, nI_eqF, nI_add, pk_mul, ofN, bt_e, or0, Nat.zero_add, Nat.add_zero, ↓reduceIte, if_true, if_false, Bool.false_eq_true, eq_self, li0, li1, li2, li3, li4, li5, li6, li7, li8, li9, li10, li11, li12, li14, li15, li16, li18, li19, li20, li23, li24, li25, li26, li27, li30, li31, li32, li36, li40, li41, li42, li43, li44, li45, li47, li48, li57, li59, li60, li91, li93, li96, li97, li100, li105, li122, li150, li200, li255, li400, li500, li600, li999, li1000, li1001, li2000, li2001, li2002, li2003, li2004, li2005, li2006, li32767, li100000, li_neg]
  · match j, hj with
    | 0, _ => simp (disch := omega) only [f_M_row_d, hN.l, hQ.wide hr, aRow, bI_s, bV_s, bL_s, bR_s, bG_s, bG_n, bX_l, bX_r, ck_nI, nI_clamp, nI_leT, nI_leF, nI_ltT, nI_ltF, nI_eqF, nI_add, pk_mul, ofN, bt_e, or0, Nat.zero_add, Nat.add_zero, ↓reduceIte, if_true, if_false, Bool.false_eq_true, eq_self, li0, li1, li2, li3, li4, li5, li6, li7, li8, li9, li10, li11, li12, li14, li15, li16, li18, li19, li20, li23, li24, li25, li26, li27, li30, li31, li32, li36, li40, li41, li42, li43, li44, li45, li47, li48, li57, li59, li60, li91, li93, li96, li97, li100, li105, li122, li150, li200, li255, li400, li500, li600, li999, li1000, li1001, li2000, li2001, li2002, li2003, li2004, li2005, li2006, li32767, li100000, li_neg]
    | 1, _ => simp (disch := omega) only [f_M_row_d, hN.l, M_roomOf hQ oP hN oW hr, aRow, Nat.one_ne_zero, bI_s, bV_s, bL_s, bR_s, bG_s, bG_n, bX_l, bX_r, ck_nI, nI_clamp, nI_leT, nI_leF, nI_ltT, nI_ltF, nI_eqF, nI_add, pk_mul, ofN, bt_e, or0, Nat.zero_add, Nat.add_zero, ↓reduceIte, if_true, if_false, Bool.false_eq_true, eq_self, li0, li1, li2, li3, li4, li5, li6, li7, li8, li9, li10, li11, li12, li14, li15, li16, li18, li19, li20, li23, li24, li25, li26, li27, li30, li31, li32, li36, li40, li41, li42, li43, li44, li45, li47, li48, li57, li59, li60, li91, li93, li96, li97, li100, li105, li122, li150, li200, li255, li400, li500, li600, li999, li1000, li1001, li2000, li2001, li2002, li2003, li2004, li2005, li2006, li32767, li100000, li_neg]
    | 2, _ => simp (disch := omega) only [f_M_row_d, hN.l, M_linesWith hN oP oW (show r < 2 ^ 31 by omega) (show 2 < 4 by omega), aRow, show ¬ (2 = 0) by omega, show ¬ (2 = 1) by omega, bI_s, bV_s, bL_s, bR_s, bG_s, bG_n, bX_l, bX_r, ck_nI, nI_clamp, nI_leT, nI_leF, nI_ltT, nI_ltF, nI_eqF, nI_add, pk_mul, ofN, bt_e, or0, Nat.zero_add, Nat.add_zero, ↓reduceIte, if_true, if_false, Bool.false_eq_true, eq_self, li0, li1, li2, li3, li4, li5, li6, li7, li8, li9, li10, li11, li12, li14, li15, li16, li18, li19, li20, li23, li24, li25, li26, li27, li30, li31, li32, li36, li40, li41, li42, li43, li44, li45, li47, li48, li57, li59, li60, li91, li93, li96, li97, li100, li105, li122, li150, li200, li255, li400, li500, li600, li999, li1000, li1001, li2000, li2001, li2002, li2003, li2004, li2005, li2006, li32767, li100000, li_neg]
    | 3, _ => simp (disch := omega) only [f_M_row_d, hN.l, aRow, oa, show ¬ (3 = 0) by omega, show ¬ (3 = 1) by omega, show ¬ (3 = 2) by omega, bI_s, bV_s, bL_s, bR_s, bG_s, bG_n, bX_l, bX_r, ck_nI, nI_clamp, nI_leT, nI_leF, nI_ltT, nI_ltF, nI_eqF, nI_add, pk_mul, ofN, bt_e, or0, Nat.zero_add, Nat.add_zero, ↓reduceIte, if_true, if_false, Bool.false_eq_true, eq_self, li0, li1, li2, li3, li4, li5, li6, li7, li8, li9, li10, li11, li12, li14, li15, li16, li18, li19, li20, li23, li24, li25, li26, li27, li30, li31, li32, li36, li40, li41, li42, li43, li44, li45, li47, li48, li57, li59, li60, li91, li93, li96, li97, li100, li105, li122, li150, li200, li255, li400, li500, li600, li999, li1000, li1001, li2000, li2001, li2002, li2003, li2004, li2005, li2006, li32767, li100000, li_neg]
end
