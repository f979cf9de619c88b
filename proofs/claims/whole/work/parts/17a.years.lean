/-! # functional level, 23: dawns drawn by seeds -/
def lc (x : Int32) : Int32 := x * 1103515245 + 12345
def rb (x : Int32) : Nat := x.toBitVec.toNat / 2 ^ 16 % 2 ^ 15
theorem rb_u (x : Int32) : ((Int32.toUInt32 x >>> (Int32.toUInt32 (16 : Int32) &&& Int32.toUInt32 31)).toInt32 &&& (32767 : Int32)) = nI (rb x) := by
  rw [pk_and _ 15 (by decide), pk_ushr x 16 16 (by decide)]; rfl
theorem rb_s (x : Int32) : ((x >>> ((16 : Int32) &&& 31)) &&& (32767 : Int32)) = nI (rb x) := by
  have hr : rb x < 2 ^ 15 := Nat.mod_lt _ (by decide)
  show (x >>> (nI 16 &&& nI 31)) &&& nI 32767 = nI (rb x)
  refine hs_ext (fun k hk => ?_)
  rw [hs_and hk, hs_nI (by omega) hk, hs_nI (by omega) hk]
  have e : Nat.testBit 32767 k = decide (k < 15) := by
    have : (32767 : Nat) = 2 ^ 15 - 1 := by decide
    rw [this, Nat.testBit_two_pow_sub_one]
  rw [e]
  unfold rb
  rw [Nat.testBit_mod_two_pow, Nat.testBit_div_two_pow]
  by_cases c : k < 15
  · rw [hs_shr (by omega), hs_bv (by omega), BitVec.getLsbD, Bool.and_comm, Nat.add_comm]
  · rw [decide_eq_false c, Bool.and_false, Bool.false_and]
section
variable {M M' M1 N : Mm} {o m p : Nat} {S : St} {P W : TT}
theorem C_draw {n : Nat} (h1 : 1 ≤ n) (hn : n < 2 ^ 31) {s : Int32} (hs : gI M o 1 = s) : f_Dawns_draw o (nI n) M = some (nI (rb (lc s) % n), sI M o 1 (lc s)) := by
  have hr : rb (lc s) < 2 ^ 15 := Nat.mod_lt _ (by decide)
  unfold f_Dawns_draw
  rw [if_neg (nI_nle h1 hn), hs, gI_same, rb_u]
  unfold nz
  rw [if_neg (nI_ne0 h1 hn)]
  show some (nI (rb (lc s)) - nI (rb (lc s)) / nI n * nI n, sI M o 1 (lc s)) = _
  rw [pk_rem (by omega) (by omega) hn]
theorem M_draw {n : Nat} (h1 : 1 ≤ n) (hn : n < 2 ^ 31) {s : Int32} (hs : gI M m 51 = s) : f_M_draw m (nI n) M = some (nI (rb (lc s) % n), sI M m 51 (lc s)) := by
  have hr : rb (lc s) < 2 ^ 15 := Nat.mod_lt _ (by decide)
  unfold f_M_draw nz
  rw [if_neg (nI_ne0 h1 hn), hs, gI_same, rb_s]
  show some (nI (rb (lc s)) - nI (rb (lc s)) / nI n * nI n, sI M m 51 (lc s)) = _
  rw [pk_rem (by omega) (by omega) hn]
end
/-- drawing, as far as the rest needs it -/
def DC (R : Int32 → Nat) (L : Int32 → Int32) : Prop := ∀ (M : Mm) (o n : Nat) (s : Int32), 1 ≤ n → n < 2 ^ 31 → gI M o 1 = s → f_Dawns_draw o (nI n) M = some (nI (R (L s) % n), sI M o 1 (L s))
def DM (R : Int32 → Nat) (L : Int32 → Int32) : Prop := ∀ (M : Mm) (m n : Nat) (s : Int32), 1 ≤ n → n < 2 ^ 31 → gI M m 51 = s → f_M_draw m (nI n) M = some (nI (R (L s) % n), sI M m 51 (L s))
theorem DC_rb : DC rb lc := fun _ _ _ _ h1 h2 h3 => C_draw h1 h2 h3
theorem DM_rb : DM rb lc := fun _ _ _ _ h1 h2 h3 => M_draw h1 h2 h3
section
variable {M M' M1 N : Mm} {o m p : Nat} {S : St} {P W : TT} {R : Int32 → Nat} {L : Int32 → Int32}
/-- seed, wall, written, slips, rains -/
abbrev YT : Type := Int32 × TT × Nat × Nat × Nat
def yb (R : Int32 → Nat) (L : Int32 → Int32) (P : TT) (y : YT) : Nat := R (L (L y.1)) % P 0 2
def yw (R : Int32 → Nat) (L : Int32 → Int32) (P : TT) (y : YT) : Nat := R (L y.1) % P 0 5
def yr (R : Int32 → Nat) (L : Int32 → Int32) (P : TT) (y : YT) : Nat := R (L (L (L y.1))) % P 0 0
def y1 (R : Int32 → Nat) (L : Int32 → Int32) (P : TT) (y : YT) : YT := (L (L (L y.1)), aWr P y.2.1 (yw R L P y) (yb R L P y) (yr R L P y), y.2.2.1 + (if mw P y.2.1 (yw R L P y) (yb R L P y) (yr R L P y) = true then 1 else 0), y.2.2.2)
def y2 (R : Int32 → Nat) (L : Int32 → Int32) (P : TT) (q b : Nat) (y : YT) : YT := if R (L y.1) % 16 < q then (L y.1, aSl P y.2.1 b, y.2.2.1, y.2.2.2.1 + (if P 7 (y.2.1 5 b) = 4294967295 then 0 else 1), y.2.2.2.2) else (L y.1, y.2)
def y3 (R : Int32 → Nat) (L : Int32 → Int32) (mm : Nat) (y : YT) : YT := if R (L y.1) % 16 < mm then (L y.1, wRn y.2.1 1, y.2.2.1, y.2.2.2.1, y.2.2.2.2 + rainy y.2.1 1) else (L y.1, y.2)
def y4 (P : TT) (k : Nat) (y : YT) : YT := if k % 4 = 0 then (y.1, wNt P y.2.1, y.2.2) else y
def dwn (R : Int32 → Nat) (L : Int32 → Int32) (P : TT) (q mm k : Nat) (y : YT) : YT := y4 P k (y3 R L mm (y2 R L P q (yb R L P y) (y1 R L P y)))
/-- the class's -/
def YC (M : Mm) (o : Nat) (P : TT) (y : YT) : Prop := (gI M o 1 = y.1 ∧ isW M (o + 1) P y.2.1 ∧ okW P y.2.1) ∧ gI M o 2 = nI y.2.2.1 ∧ gI M o 3 = nI y.2.2.2.1 ∧ gI M o 4 = nI y.2.2.2.2
def oPs (P : TT) : Prop := okP P ∧ 1 ≤ P 0 0 ∧ 1 ≤ P 0 2 ∧ 1 ≤ P 0 5
theorem C_y1 (dC : DC R L) {y : YT} (h : YC M o P y) (hP : isP M p P) (oP : oPs P) (hd : p + 8 ≤ o ∨ o + 9 ≤ p) (q mm : Int32) : ∃ M', f_Dawns_playDawn o p q mm M = f_Dawns_playDawn_b o p q mm (nI (yw R L P y)) (nI (yb R L P y)) (nI (yr R L P y)) M' ∧ YC M' o P (y1 R L P y) ∧ Fr (rg o 9) M M' := by
  obtain ⟨⟨h1, h2, h3⟩, h4, h5, h6⟩ := h
  obtain ⟨oP, n0, n2, n5⟩ := oP
  have b0 := oP.r
  have b2 := oP.b
  have b5 := oP.w
  have f1 : Fr (rg o 1) M (sI M o 1 (L y.1)) := (Fr.rf _ _).sI ⟨by omega, by omega⟩
  have f2 : Fr (rg o 1) M (sI (sI M o 1 (L y.1)) o 1 (L (L y.1))) := f1.sI ⟨by omega, by omega⟩
  have f3 : Fr (rg o 1) M (sI (sI (sI M o 1 (L y.1)) o 1 (L (L y.1))) o 1 (L (L (L y.1)))) := f2.sI ⟨by omega, by omega⟩
  have p3 := hP.fr f3 (fun x h1 h2 => by unfold rg; omega)
  have w3 := h2.fr f3 (fun x h1 h2 => by unfold rg; omega)
  have d1 := dC (M) o (P 0 5) _ n5 (by omega) h1
  have d2 := dC (sI M o 1 (L y.1)) o (P 0 2) _ n2 (by omega) (gI_same ..)
  have d3 := dC (sI (sI M o 1 (L y.1)) o 1 (L (L y.1))) o (P 0 0) _ n0 (by omega) (gI_same ..)
  have hw : yw R L P y < P 0 5 := Nat.mod_lt _ (by omega)
  have hb : yb R L P y < P 0 2 := Nat.mod_lt _ (by omega)
  have hr : yr R L P y < P 0 0 := Nat.mod_lt _ (by omega)
  obtain ⟨N, e1, e2, e3⟩ := C_write (o := o + 1) p3 oP w3 h3 (by omega) hw hb hr
  have g : ∀ j, gI N o j = gI (sI (sI (sI M o 1 (L y.1)) o 1 (L (L y.1))) o 1 (L (L (L y.1)))) o j := fun j => e3.i (by unfold rg; omega) j
  have fN : Fr (rg o 9) M N := (f3.mono (fun a (ha : _ ∧ _) => ⟨by omega, by omega⟩)).trans (e3.mono (fun a (ha : _ ∧ _) => ⟨by omega, by omega⟩))
  have q5 := hP.w
  have q2 : gI (sI M o 1 (L y.1)) p 2 = nI (P 0 2) := by rw [gI_ne (by omega)]; exact hP.b
  have q0 : gI (sI (sI M o 1 (L y.1)) o 1 (L (L y.1))) p 0 = nI (P 0 0) := by rw [gI_ne (by omega), gI_ne (by omega)]; exact hP.r
  have g1 : gI N o 1 = L (L (L y.1)) := by rw [g]; exact gI_same ..
  have g2 : gI N o 2 = nI y.2.2.1 := by rw [g, gI_ne (by omega), gI_ne (by omega), gI_ne (by omega)]; exact h4
  have g3 : gI N o 3 = nI y.2.2.2.1 := by rw [g, gI_ne (by omega), gI_ne (by omega), gI_ne (by omega)]; exact h5
  have g4 : gI N o 4 = nI y.2.2.2.2 := by rw [g, gI_ne (by omega), gI_ne (by omega), gI_ne (by omega)]; exact h6
  have d1' : f_Dawns_draw o (nI (P 0 5)) M = some (nI (yw R L P y), sI M o 1 (L y.1)) := d1
  have d2' : f_Dawns_draw o (nI (P 0 2)) (sI M o 1 (L y.1)) = some (nI (yb R L P y), sI (sI M o 1 (L y.1)) o 1 (L (L y.1))) := d2
  have d3' : f_Dawns_draw o (nI (P 0 0)) (sI (sI M o 1 (L y.1)) o 1 (L (L y.1))) = some (nI (yr R L P y), sI (sI (sI M o 1 (L y.1)) o 1 (L (L y.1))) o 1 (L (L (L y.1)))) := d3
  have oA : okW P (aWr P y.2.1 (yw R L P y) (yb R L P y) (yr R L P y)) := h3.awr hw hb hr
  by_cases c : mw P y.2.1 (yw R L P y) (yb R L P y) (yr R L P y) = true
  · rw [if_pos c] at e1
    refine ⟨sI N o 2 (nI (y.2.2.1 + 1)), ?_, ⟨⟨?_, ?_, oA⟩, ?_, ?_, ?_⟩, fN.sI ⟨by omega, by omega⟩⟩
    · simp (disch := omega) only [f_Dawns_playDawn, q5, q2, q0, d1', d2', d3', e1, g2, bI_s, bV_s, bL_s, bR_s, bG_s, bG_n, bX_l, bX_r, ck_nI, nI_clamp, nI_leT, nI_leF, nI_ltT, nI_ltF, nI_eqF, nI_add, pk_mul, ofN, bt_e, or0, Nat.zero_add, Nat.add_zero, ↓reduceIte, if_true, if_false, Bool.false_eq_true, eq_self, li0, li1, li2, li3, li4, li5, li6, li7, li8, li9, li10, li11, li12, li14, li15, li16, li18, li19, li20, li23, li24, li25, li26, li27, li30, li31, li32, li36, li40, li41, li42, li43, li44, li45, li47, li48, li57, li59, li60, li91, li93, li96, li97, li100, li105, li122, li150, li200, li255, li400, li500, li600, li999, li1000, li1001, li2000, li2001, li2002, li2003, li2004, li2005, li2006, li32767, li100000, li_neg, li13, li17, li21, li22, li28, li29, li33, li34, li35, li37, li38, li39, li46, li49, li50, li51, li52, li53, li63, li80, li115, li160]
    · rw [gI_ne (by omega)]; exact g1
    · exact e2.fr ((Fr.rf (rg o 1) N).sI ⟨by omega, by omega⟩) (fun x h1 h2 => by unfold rg; omega)
    · show _ = nI (y.2.2.1 + (if mw P y.2.1 (yw R L P y) (yb R L P y) (yr R L P y) = true then 1 else 0))
      rw [if_pos c]; exact gI_same ..
    · rw [gI_ne (by omega)]; exact g3
    · rw [gI_ne (by omega)]; exact g4
  · rw [if_neg c] at e1
    refine ⟨N, ?_, ⟨⟨g1, e2, oA⟩, ?_, g3, g4⟩, fN⟩
    · simp (disch := omega) only [f_Dawns_playDawn, q5, q2, q0, d1', d2', d3', e1, bI_s, bV_s, bL_s, bR_s, bG_s, bG_n, bX_l, bX_r, ck_nI, nI_clamp, nI_leT, nI_leF, nI_ltT, nI_ltF, nI_eqF, nI_add, pk_mul, ofN, bt_e, or0, Nat.zero_add, Nat.add_zero, ↓reduceIte, if_true, if_false, Bool.false_eq_true, eq_self, li0, li1, li2, li3, li4, li5, li6, li7, li8, li9, li10, li11, li12, li14, li15, li16, li18, li19, li20, li23, li24, li25, li26, li27, li30, li31, li32, li36, li40, li41, li42, li43, li44, li45, li47, li48, li57, li59, li60, li91, li93, li96, li97, li100, li105, li122, li150, li200, li255, li400, li500, li600, li999, li1000, li1001, li2000, li2001, li2002, li2003, li2004, li2005, li2006, li32767, li100000, li_neg, li13, li17, li21, li22, li28, li29, li33, li34, li35, li37, li38, li39, li46, li49, li50, li51, li52, li53, li63, li80, li115, li160]
    · show _ = nI (y.2.2.1 + (if mw P y.2.1 (yw R L P y) (yb R L P y) (yr R L P y) = true then 1 else 0))
      rw [if_neg c]; exact g2
theorem C_y2 (dC : DC R L) {y : YT} (h : YC M o P y) (hP : isP M p P) (oP : oPs P) (hd : p + 8 ≤ o ∨ o + 9 ≤ p) {q b : Nat} (hq : q ≤ 16) (hb : b < P 0 2) (mm w r : Int32) : ∃ M', f_Dawns_playDawn_b o p (nI q) mm w (nI b) r M = f_Dawns_playDawn_c o p (nI q) mm w (nI b) r M' ∧ YC M' o P (y2 R L P q b y) ∧ Fr (rg o 9) M M' := by
  obtain ⟨⟨h1, h2, h3⟩, h4, h5, h6⟩ := h
  obtain ⟨oP, n0, n2, n5⟩ := oP
  have f1 : Fr (rg o 1) M (sI M o 1 (L y.1)) := (Fr.rf _ _).sI ⟨by omega, by omega⟩
  have f19 : Fr (rg o 9) M (sI M o 1 (L y.1)) := f1.mono (fun a (ha : _ ∧ _) => ⟨by omega, by omega⟩)
  have d1 := dC (M) o (16) _ (by omega) (by omega) h1
  have p3 := hP.fr f1 (fun x h1 h2 => by unfold rg; omega)
  have w3 := h2.fr f1 (fun x h1 h2 => by unfold rg; omega)
  have hlt : R (L y.1) % 16 < 16 := Nat.mod_lt _ (by omega)
  unfold y2
  by_cases c : R (L y.1) % 16 < q
  · rw [if_pos c]
    obtain ⟨N, e1, e2, e3⟩ := C_slip (o := o + 1) p3 oP w3 h3 hb
    have g : ∀ j, gI N o j = gI (sI M o 1 (L y.1)) o j := fun j => e3.i (by unfold rg; omega) j
    have fN : Fr (rg o 9) M N := f19.trans (e3.mono (fun a (ha : _ ∧ _) => ⟨by omega, by omega⟩))
    have g1 : gI N o 1 = L y.1 := by rw [g]; exact gI_same ..
    have g2 : gI N o 2 = nI y.2.2.1 := by rw [g, gI_ne (by omega)]; exact h4
    have g3 : gI N o 3 = nI y.2.2.2.1 := by rw [g, gI_ne (by omega)]; exact h5
    have g4 : gI N o 4 = nI y.2.2.2.2 := by rw [g, gI_ne (by omega)]; exact h6
    by_cases c2 : P 7 (y.2.1 5 b) = 4294967295
    · rw [if_pos c2] at e1
      refine ⟨N, ?_, ⟨⟨g1, e2, h3.asl oP hb⟩, g2, ?_, g4⟩, fN⟩
      · simp (disch := omega) only [f_Dawns_playDawn_b, d1, e1, bI_s, bV_s, bL_s, bR_s, bG_s, bG_n, bX_l, bX_r, ck_nI, nI_clamp, nI_leT, nI_leF, nI_ltT, nI_ltF, nI_eqF, nI_add, pk_mul, ofN, bt_e, or0, Nat.zero_add, Nat.add_zero, ↓reduceIte, if_true, if_false, Bool.false_eq_true, eq_self, li0, li1, li2, li3, li4, li5, li6, li7, li8, li9, li10, li11, li12, li14, li15, li16, li18, li19, li20, li23, li24, li25, li26, li27, li30, li31, li32, li36, li40, li41, li42, li43, li44, li45, li47, li48, li57, li59, li60, li91, li93, li96, li97, li100, li105, li122, li150, li200, li255, li400, li500, li600, li999, li1000, li1001, li2000, li2001, li2002, li2003, li2004, li2005, li2006, li32767, li100000, li_neg, li13, li17, li21, li22, li28, li29, li33, li34, li35, li37, li38, li39, li46, li49, li50, li51, li52, li53, li63, li80, li115, li160]
      · show _ = nI (y.2.2.2.1 + (if P 7 (y.2.1 5 b) = 4294967295 then 0 else 1))
        rw [if_pos c2]; exact g3
    · rw [if_neg c2] at e1
      refine ⟨sI N o 3 (nI (y.2.2.2.1 + 1)), ?_, ⟨⟨?_, ?_, h3.asl oP hb⟩, ?_, ?_, ?_⟩, fN.sI ⟨by omega, by omega⟩⟩
      · simp (disch := omega) only [f_Dawns_playDawn_b, d1, e1, g3, bI_s, bV_s, bL_s, bR_s, bG_s, bG_n, bX_l, bX_r, ck_nI, nI_clamp, nI_leT, nI_leF, nI_ltT, nI_ltF, nI_eqF, nI_add, pk_mul, ofN, bt_e, or0, Nat.zero_add, Nat.add_zero, ↓reduceIte, if_true, if_false, Bool.false_eq_true, eq_self, li0, li1, li2, li3, li4, li5, li6, li7, li8, li9, li10, li11, li12, li14, li15, li16, li18, li19, li20, li23, li24, li25, li26, li27, li30, li31, li32, li36, li40, li41, li42, li43, li44, li45, li47, li48, li57, li59, li60, li91, li93, li96, li97, li100, li105, li122, li150, li200, li255, li400, li500, li600, li999, li1000, li1001, li2000, li2001, li2002, li2003, li2004, li2005, li2006, li32767, li100000, li_neg, li13, li17, li21, li22, li28, li29, li33, li34, li35, li37, li38, li39, li46, li49, li50, li51, li52, li53, li63, li80, li115, li160]
      · rw [gI_ne (by omega)]; exact g1
      · exact e2.fr ((Fr.rf (rg o 1) N).sI ⟨by omega, by omega⟩) (fun x h1 h2 => by unfold rg; omega)
      · rw [gI_ne (by omega)]; exact g2
      · show _ = nI (y.2.2.2.1 + (if P 7 (y.2.1 5 b) = 4294967295 then 0 else 1))
        rw [if_neg c2]; exact gI_same ..
      · rw [gI_ne (by omega)]; exact g4
  · rw [if_neg c]
    refine ⟨sI M o 1 (L y.1), ?_, ⟨⟨gI_same .., w3, h3⟩, ?_, ?_, ?_⟩, f19⟩
    · simp (disch := omega) only [f_Dawns_playDawn_b, d1, bI_s, bV_s, bL_s, bR_s, bG_s, bG_n, bX_l, bX_r, ck_nI, nI_clamp, nI_leT, nI_leF, nI_ltT, nI_ltF, nI_eqF, nI_add, pk_mul, ofN, bt_e, or0, Nat.zero_add, Nat.add_zero, ↓reduceIte, if_true, if_false, Bool.false_eq_true, eq_self, li0, li1, li2, li3, li4, li5, li6, li7, li8, li9, li10, li11, li12, li14, li15, li16, li18, li19, li20, li23, li24, li25, li26, li27, li30, li31, li32, li36, li40, li41, li42, li43, li44, li45, li47, li48, li57, li59, li60, li91, li93, li96, li97, li100, li105, li122, li150, li200, li255, li400, li500, li600, li999, li1000, li1001, li2000, li2001, li2002, li2003, li2004, li2005, li2006, li32767, li100000, li_neg, li13, li17, li21, li22, li28, li29, li33, li34, li35, li37, li38, li39, li46, li49, li50, li51, li52, li53, li63, li80, li115, li160]
    · rw [gI_ne (by omega)]; exact h4
    · rw [gI_ne (by omega)]; exact h5
    · rw [gI_ne (by omega)]; exact h6
theorem C_y3 (dC : DC R L) {y : YT} (h : YC M o P y) (oP : oPs P) {mm : Nat} (hm : mm ≤ 16) (q w b r : Int32) : ∃ M', f_Dawns_playDawn_c o p q (nI mm) w b r M = some M' ∧ YC M' o P (y3 R L mm y) ∧ Fr (rg o 9) M M' := by
  obtain ⟨⟨h1, h2, h3⟩, h4, h5, h6⟩ := h
  obtain ⟨oP, n0, n2, n5⟩ := oP
  have f1 : Fr (rg o 1) M (sI M o 1 (L y.1)) := (Fr.rf _ _).sI ⟨by omega, by omega⟩
  have f19 : Fr (rg o 9) M (sI M o 1 (L y.1)) := f1.mono (fun a (ha : _ ∧ _) => ⟨by omega, by omega⟩)
  have d1 := dC (M) o (16) _ (by omega) (by omega) h1
  have w3 := h2.fr f1 (fun x h1 h2 => by unfold rg; omega)
  have hlt : R (L y.1) % 16 < 16 := Nat.mod_lt _ (by omega)
  unfold y3
  by_cases c : R (L y.1) % 16 < mm
  · rw [if_pos c]
    obtain ⟨N, e1, e2, e3⟩ := C_rain (o := o + 1) oP w3 h3 (lo := 1) (by omega)
    have g : ∀ j, gI N o j = gI (sI M o 1 (L y.1)) o j := fun j => e3.i (by unfold rg; omega) j
    have fN : Fr (rg o 9) M N := f19.trans (e3.mono (fun a (ha : _ ∧ _) => ⟨by omega, by omega⟩))
    have g1 : gI N o 1 = L y.1 := by rw [g]; exact gI_same ..
    have g2 : gI N o 2 = nI y.2.2.1 := by rw [g, gI_ne (by omega)]; exact h4
    have g3 : gI N o 3 = nI y.2.2.2.1 := by rw [g, gI_ne (by omega)]; exact h5
    have g4 : gI N o 4 = nI y.2.2.2.2 := by rw [g, gI_ne (by omega)]; exact h6
    obtain c2 | c2 : rainy y.2.1 1 = 0 ∨ rainy y.2.1 1 = 1 := by unfold rainy; split <;> omega
    · rw [c2] at e1
      refine ⟨N, ?_, ⟨⟨g1, e2, h3.rn 1⟩, g2, g3, ?_⟩, fN⟩
      · simp (disch := omega) only [f_Dawns_playDawn_c, d1, e1, bI_s, bV_s, bL_s, bR_s, bG_s, bG_n, bX_l, bX_r, ck_nI, nI_clamp, nI_leT, nI_leF, nI_ltT, nI_ltF, nI_eqF, nI_add, pk_mul, ofN, bt_e, or0, Nat.zero_add, Nat.add_zero, ↓reduceIte, if_true, if_false, Bool.false_eq_true, eq_self, li0, li1, li2, li3, li4, li5, li6, li7, li8, li9, li10, li11, li12, li14, li15, li16, li18, li19, li20, li23, li24, li25, li26, li27, li30, li31, li32, li36, li40, li41, li42, li43, li44, li45, li47, li48, li57, li59, li60, li91, li93, li96, li97, li100, li105, li122, li150, li200, li255, li400, li500, li600, li999, li1000, li1001, li2000, li2001, li2002, li2003, li2004, li2005, li2006, li32767, li100000, li_neg, li13, li17, li21, li22, li28, li29, li33, li34, li35, li37, li38, li39, li46, li49, li50, li51, li52, li53, li63, li80, li115, li160]
      · show _ = nI (y.2.2.2.2 + rainy y.2.1 1)
        rw [c2]; exact g4
    · rw [c2] at e1
      refine ⟨sI N o 4 (nI (y.2.2.2.2 + 1)), ?_, ⟨⟨?_, ?_, h3.rn 1⟩, ?_, ?_, ?_⟩, fN.sI ⟨by omega, by omega⟩⟩
      · simp (disch := omega) only [f_Dawns_playDawn_c, d1, e1, g4, bI_s, bV_s, bL_s, bR_s, bG_s, bG_n, bX_l, bX_r, ck_nI, nI_clamp, nI_leT, nI_leF, nI_ltT, nI_ltF, nI_eqF, nI_add, pk_mul, ofN, bt_e, or0, Nat.zero_add, Nat.add_zero, ↓reduceIte, if_true, if_false, Bool.false_eq_true, eq_self, li0, li1, li2, li3, li4, li5, li6, li7, li8, li9, li10, li11, li12, li14, li15, li16, li18, li19, li20, li23, li24, li25, li26, li27, li30, li31, li32, li36, li40, li41, li42, li43, li44, li45, li47, li48, li57, li59, li60, li91, li93, li96, li97, li100, li105, li122, li150, li200, li255, li400, li500, li600, li999, li1000, li1001, li2000, li2001, li2002, li2003, li2004, li2005, li2006, li32767, li100000, li_neg, li13, li17, li21, li22, li28, li29, li33, li34, li35, li37, li38, li39, li46, li49, li50, li51, li52, li53, li63, li80, li115, li160]
      · rw [gI_ne (by omega)]; exact g1
      · exact e2.fr ((Fr.rf (rg o 1) N).sI ⟨by omega, by omega⟩) (fun x h1 h2 => by unfold rg; omega)
      · rw [gI_ne (by omega)]; exact g2
      · rw [gI_ne (by omega)]; exact g3
      · show _ = nI (y.2.2.2.2 + rainy y.2.1 1)
        rw [c2]; exact gI_same ..
  · rw [if_neg c]
    refine ⟨sI M o 1 (L y.1), ?_, ⟨⟨gI_same .., w3, h3⟩, ?_, ?_, ?_⟩, f19⟩
    · simp (disch := omega) only [f_Dawns_playDawn_c, d1, bI_s, bV_s, bL_s, bR_s, bG_s, bG_n, bX_l, bX_r, ck_nI, nI_clamp, nI_leT, nI_leF, nI_ltT, nI_ltF, nI_eqF, nI_add, pk_mul, ofN, bt_e, or0, Nat.zero_add, Nat.add_zero, ↓reduceIte, if_true, if_false, Bool.false_eq_true, eq_self, li0, li1, li2, li3, li4, li5, li6, li7, li8, li9, li10, li11, li12, li14, li15, li16, li18, li19, li20, li23, li24, li25, li26, li27, li30, li31, li32, li36, li40, li41, li42, li43, li44, li45, li47, li48, li57, li59, li60, li91, li93, li96, li97, li100, li105, li122, li150, li200, li255, li400, li500, li600, li999, li1000, li1001, li2000, li2001, li2002, li2003, li2004, li2005, li2006, li32767, li100000, li_neg, li13, li17, li21, li22, li28, li29, li33, li34, li35, li37, li38, li39, li46, li49, li50, li51, li52, li53, li63, li80, li115, li160]
    · rw [gI_ne (by omega)]; exact h4
    · rw [gI_ne (by omega)]; exact h5
    · rw [gI_ne (by omega)]; exact h6
/-! the model's -/
def YM (N : Mm) (m : Nat) (P : TT) (y : YT) : Prop := (gI N m 51 = y.1 ∧ isN N (m + 471) P y.2.1 ∧ okW P y.2.1) ∧ gI N m 52 = nI y.2.2.2.1 ∧ gI N m 53 = nI y.2.2.2.2
def FY (m : Nat) (N N' : Mm) : Prop := FM m N N' ∧ gI N' m 0 = gI N m 0
theorem FY.rf (m : Nat) (N : Mm) : FY m N N := ⟨FM.rf _ _, rfl⟩
theorem FY.trans {N1 N2 : Mm} (h : FY m N N1) (h2 : FY m N1 N2) : FY m N N2 := ⟨h.1.trans h2.1, h2.2.trans h.2⟩
theorem FY.sI {N1 : Mm} (h : FY m N N1) {j : Nat} {v : Int32} (hj : 51 ≤ j) : FY m N (sI N1 m j v) := ⟨h.1.sI (Or.inr ⟨rfl, by omega⟩), by rw [gI_ne (by omega)]; exact h.2⟩
theorem FY.row {N1 N2 : Mm} (h : FY m N N1) (f : Fr (fun x => x = m + 471) N1 N2) : FY m N N2 := ⟨h.1.trans (FM.ofFr f (fun a (ha : a = m + 471) j => Or.inl (by omega))), by rw [f.i (by omega)]; exact h.2⟩
theorem FY.isQ {N1 : Mm} (h : FY m N N1) (q : isQ N m P) (oP : okP P) : isQ N1 m P := by
  have hB := oP.b
  have hW := oP.w
  have e : ∀ a j, qrg m a → gI N1 a j = gI N a j := fun a j ha => h.1.2.1 a j (by unfold qrg at ha; unfold scM; omega)
  exact ⟨⟨by rw [e _ _ (by unfold qrg; omega)]; exact q.r, by rw [e _ _ (by unfold qrg; omega)]; exact q.b, by rw [e _ _ (by unfold qrg; omega)]; exact q.w⟩, fun k hk => by rw [e _ _ (by unfold qrg; omega)]; exact q.wide hk, fun k hk => ⟨by rw [e _ _ (by unfold qrg; omega)]; exact q.act hk, by rw [e _ _ (by unfold qrg; omega)]; exact q.len hk⟩, fun k hk => ⟨by rw [e _ _ (by unfold qrg; omega)]; exact q.rch hk, by rw [e _ _ (by unfold qrg; omega)]; exact q.chk hk, by rw [e _ _ (by unfold qrg; omega)]; exact q.kn hk⟩, fun k hk => by rw [e _ _ (by unfold qrg; omega)]; exact q.kin hk⟩
def yM2 (kb : Nat → Int32 → Int32 → Int32 → Int32 → Int32 → Mm → Option Mm) (m : Nat) (sd ds q mm k w b r : Int32) (M : Mm) : Option Mm := (bI (f_M_draw m 16 M) (fun z15 M13 => (if q ≤ z15 then f_M_yearsBy_c kb m sd ds q mm k w b r M13 else (bI (f_M_slips m (m + 471) 105 b M13) (fun z18 M16 => (if z18 = 0 then f_M_yearsBy_c kb m sd ds q mm k w b r (sI M16 m 52 ((gI M13 m 52) + 0)) else f_M_yearsBy_c kb m sd ds q mm k w b r (sI M16 m 52 ((gI M13 m 52) + 1))))))))
theorem yM1 (u m : Nat) (sd ds q mm k : Int32) (M : Mm) : f_M_yearsBy_b (u + 1) m sd ds q mm k M = (if ds < k then some (M) else (ck 2 3 ((bI (f_M_draw m (gI M (m + 4) (Int32.toNatClampNeg 2)) M) (fun z3 M1 => (ck 1 3 ((bI (f_M_draw m (gI M1 (m + 4) (Int32.toNatClampNeg 1)) M1) (fun z6 M4 => (ck 0 3 ((bI (f_M_draw m (gI M4 (m + 4) (Int32.toNatClampNeg 0)) M4) (fun z9 M7 => (bI (f_M_writes m (m + 471) 105 z3 z6 z9 M7) (fun z12 M10 => yM2 (f_M_yearsBy_b u) m sd ds q mm k z3 z6 z9 M10))))))))))))))) := by
  rw [f_M_yearsBy_b]
  rfl
theorem M_y1 (dM : DM R L) {y : YT} (h : YM N m P y) (hQ : isQ N m P) (oP : oPs P) {k ds : Nat} (hk : k ≤ ds) (hds : ds ≤ 96) (sd q mm : Int32) (u : Nat) : ∃ N', f_M_yearsBy_b (u + 1) m sd (nI ds) q mm (nI k) N = yM2 (f_M_yearsBy_b u) m sd (nI ds) q mm (nI k) (nI (yw R L P y)) (nI (yb R L P y)) (nI (yr R L P y)) N' ∧ YM N' m P (y1 R L P y) ∧ FY m N N' := by
  obtain ⟨⟨h1, h2, h3⟩, h5, h6⟩ := h
  obtain ⟨oP, n0, n2, n5⟩ := oP
  have b0 := oP.r
  have b2 := oP.b
  have b5 := oP.w
  have nq : ¬ qrg m (m + 471) := by unfold qrg; omega
  have d1 : f_M_draw m (nI (P 0 5)) N = some (nI (yw R L P y), sI N m 51 (L y.1)) := dM _ m _ _ n5 (by omega) h1
  have d2 : f_M_draw m (nI (P 0 2)) (sI N m 51 (L y.1)) = some (nI (yb R L P y), sI (sI N m 51 (L y.1)) m 51 (L (L y.1))) := dM _ m _ _ n2 (by omega) (gI_same ..)
  have d3 : f_M_draw m (nI (P 0 0)) (sI (sI N m 51 (L y.1)) m 51 (L (L y.1))) = some (nI (yr R L P y), sI (sI (sI N m 51 (L y.1)) m 51 (L (L y.1))) m 51 (L (L (L y.1)))) := dM _ m _ _ n0 (by omega) (gI_same ..)
  have hw : yw R L P y < P 0 5 := Nat.mod_lt _ (by omega)
  have hb : yb R L P y < P 0 2 := Nat.mod_lt _ (by omega)
  have hr : yr R L P y < P 0 0 := Nat.mod_lt _ (by omega)
  have F3 : FY m N (sI (sI (sI N m 51 (L y.1)) m 51 (L (L y.1))) m 51 (L (L (L y.1)))) := (((FY.rf m N).sI (by omega)).sI (by omega)).sI (by omega)
  have q0 := hQ.w
  have q1 : gI (sI N m 51 (L y.1)) (m + 4) 1 = nI (P 0 2) := by rw [gI_ne (by omega)]; exact hQ.b
  have q2 : gI (sI (sI N m 51 (L y.1)) m 51 (L (L y.1))) (m + 4) 0 = nI (P 0 0) := by rw [gI_ne (by omega), gI_ne (by omega)]; exact hQ.r
  have g2 : gI (sI (sI (sI N m 51 (L y.1)) m 51 (L (L y.1))) m 51 (L (L (L y.1)))) m 52 = nI y.2.2.2.1 := by rw [gI_ne (by omega), gI_ne (by omega), gI_ne (by omega)]; exact h5
  have g3 : gI (sI (sI (sI N m 51 (L y.1)) m 51 (L (L y.1))) m 51 (L (L (L y.1)))) m 53 = nI y.2.2.2.2 := by rw [gI_ne (by omega), gI_ne (by omega), gI_ne (by omega)]; exact h6
  have i3 : isN (sI (sI (sI N m 51 (L y.1)) m 51 (L (L y.1))) m 51 (L (L (L y.1)))) (m + 471) P y.2.1 := h2.fr ((((Fr.rf (fun x => x = m) N).sI rfl).sI rfl).sI rfl) (by omega)
  obtain ⟨N4, e1, e2, e3⟩ := M_writes (a := m + 471) (F3.isQ hQ oP) oP i3 h3 nq hw hb hr
  refine ⟨N4, ?_, ⟨⟨?_, e2, h3.awr hw hb hr⟩, ?_, ?_⟩, F3.row e3⟩
  · simp (disch := omega) only [yM1, q0, q1, q2, d1, d2, d3, e1, bI_s, bV_s, bL_s, bR_s, bG_s, bG_n, bX_l, bX_r, ck_nI, nI_clamp, nI_leT, nI_leF, nI_ltT, nI_ltF, nI_eqF, nI_add, pk_mul, ofN, bt_e, or0, Nat.zero_add, Nat.add_zero, ↓reduceIte, if_true, if_false, Bool.false_eq_true, eq_self, li0, li1, li2, li3, li4, li5, li6, li7, li8, li9, li10, li11, li12, li14, li15, li16, li18, li19, li20, li23, li24, li25, li26, li27, li30, li31, li32, li36, li40, li41, li42, li43, li44, li45, li47, li48, li57, li59, li60, li91, li93, li96, li97, li100, li105, li122, li150, li200, li255, li400, li500, li600, li999, li1000, li1001, li2000, li2001, li2002, li2003, li2004, li2005, li2006, li32767, li100000, li_neg, li13, li17, li21, li22, li28, li29, li33, li34, li35, li37, li38, li39, li46, li49, li50, li51, li52, li53, li63, li80, li115, li160]
  · rw [e3.i (by omega)]; exact gI_same ..
  · rw [e3.i (by omega)]; exact g2
  · rw [e3.i (by omega)]; exact g3
theorem M_y2 (dM : DM R L) {y : YT} (h : YM N m P y) (hQ : isQ N m P) (oP : oPs P) {q b : Nat} (hq : q ≤ 16) (hb : b < P 0 2) (kb : Nat → Int32 → Int32 → Int32 → Int32 → Int32 → Mm → Option Mm) (sd ds mm k w r : Int32) : ∃ N', yM2 kb m sd ds (nI q) mm k w (nI b) r N = f_M_yearsBy_c kb m sd ds (nI q) mm k w (nI b) r N' ∧ YM N' m P (y2 R L P q b y) ∧ FY m N N' := by
  obtain ⟨⟨k1, i4, ow1⟩, k2, k3⟩ := h
  obtain ⟨oP, n0, n2, n5⟩ := oP
  have d4 := dM (N) m (16) _ (by omega) (by omega) k1
  have hlt : R (L y.1) % 16 < 16 := Nat.mod_lt _ (by omega)
  have i5 : isN (sI N m 51 (L y.1)) (m + 471) P y.2.1 := i4.fr ((Fr.rf (fun x => x = m) N).sI rfl) (by omega)
  have F5 : FY m N (sI N m 51 (L y.1)) := (FY.rf m N).sI (by omega)
  have l2 : gI (sI N m 51 (L y.1)) m 52 = nI y.2.2.2.1 := by rw [gI_ne (by omega)]; exact k2
  have l3 : gI (sI N m 51 (L y.1)) m 53 = nI y.2.2.2.2 := by rw [gI_ne (by omega)]; exact k3
  unfold y2
  by_cases c : R (L y.1) % 16 < q
  · rw [if_pos c]
    obtain ⟨N6, r1, r2, r3⟩ := M_slips (a := m + 471) (F5.isQ hQ oP) oP i5 ow1 hb
    have F6 : FY m N N6 := F5.row r3
    have v1 : gI N6 m 51 = L y.1 := by rw [r3.i (by omega)]; exact gI_same ..
    have v3 : gI N6 m 53 = nI y.2.2.2.2 := by rw [r3.i (by omega)]; exact l3
    by_cases c2 : P 7 (y.2.1 5 b) = 4294967295
    · rw [if_pos c2] at r1
      refine ⟨sI N6 m 52 (nI (y.2.2.2.1 + 0)), ?_, ⟨⟨by rw [gI_ne (by omega)]; exact v1, r2.fr ((Fr.rf (fun x => x = m) N6).sI rfl) (by omega), ow1.asl oP hb⟩, ?_, by rw [gI_ne (by omega)]; exact v3⟩, F6.sI (by omega)⟩
      · simp (disch := omega) only [yM2, d4, r1, l2, bI_s, bV_s, bL_s, bR_s, bG_s, bG_n, bX_l, bX_r, ck_nI, nI_clamp, nI_leT, nI_leF, nI_ltT, nI_ltF, nI_eqF, nI_add, pk_mul, ofN, bt_e, or0, Nat.zero_add, Nat.add_zero, ↓reduceIte, if_true, if_false, Bool.false_eq_true, eq_self, li0, li1, li2, li3, li4, li5, li6, li7, li8, li9, li10, li11, li12, li14, li15, li16, li18, li19, li20, li23, li24, li25, li26, li27, li30, li31, li32, li36, li40, li41, li42, li43, li44, li45, li47, li48, li57, li59, li60, li91, li93, li96, li97, li100, li105, li122, li150, li200, li255, li400, li500, li600, li999, li1000, li1001, li2000, li2001, li2002, li2003, li2004, li2005, li2006, li32767, li100000, li_neg, li13, li17, li21, li22, li28, li29, li33, li34, li35, li37, li38, li39, li46, li49, li50, li51, li52, li53, li63, li80, li115, li160]
      · show _ = nI (y.2.2.2.1 + (if P 7 (y.2.1 5 b) = 4294967295 then 0 else 1))
        rw [if_pos c2]; exact gI_same ..
    · rw [if_neg c2] at r1
      refine ⟨sI N6 m 52 (nI (y.2.2.2.1 + 1)), ?_, ⟨⟨by rw [gI_ne (by omega)]; exact v1, r2.fr ((Fr.rf (fun x => x = m) N6).sI rfl) (by omega), ow1.asl oP hb⟩, ?_, by rw [gI_ne (by omega)]; exact v3⟩, F6.sI (by omega)⟩
      · simp (disch := omega) only [yM2, d4, r1, l2, bI_s, bV_s, bL_s, bR_s, bG_s, bG_n, bX_l, bX_r, ck_nI, nI_clamp, nI_leT, nI_leF, nI_ltT, nI_ltF, nI_eqF, nI_add, pk_mul, ofN, bt_e, or0, Nat.zero_add, Nat.add_zero, ↓reduceIte, if_true, if_false, Bool.false_eq_true, eq_self, li0, li1, li2, li3, li4, li5, li6, li7, li8, li9, li10, li11, li12, li14, li15, li16, li18, li19, li20, li23, li24, li25, li26, li27, li30, li31, li32, li36, li40, li41, li42, li43, li44, li45, li47, li48, li57, li59, li60, li91, li93, li96, li97, li100, li105, li122, li150, li200, li255, li400, li500, li600, li999, li1000, li1001, li2000, li2001, li2002, li2003, li2004, li2005, li2006, li32767, li100000, li_neg, li13, li17, li21, li22, li28, li29, li33, li34, li35, li37, li38, li39, li46, li49, li50, li51, li52, li53, li63, li80, li115, li160]
      · show _ = nI (y.2.2.2.1 + (if P 7 (y.2.1 5 b) = 4294967295 then 0 else 1))
        rw [if_neg c2]; exact gI_same ..
  · rw [if_neg c]
    refine ⟨sI N m 51 (L y.1), ?_, ⟨⟨gI_same .., i5, ow1⟩, l2, l3⟩, F5⟩
    simp (disch := omega) only [yM2, d4, bI_s, bV_s, bL_s, bR_s, bG_s, bG_n, bX_l, bX_r, ck_nI, nI_clamp, nI_leT, nI_leF, nI_ltT, nI_ltF, nI_eqF, nI_add, pk_mul, ofN, bt_e, or0, Nat.zero_add, Nat.add_zero, ↓reduceIte, if_true, if_false, Bool.false_eq_true, eq_self, li0, li1, li2, li3, li4, li5, li6, li7, li8, li9, li10, li11, li12, li14, li15, li16, li18, li19, li20, li23, li24, li25, li26, li27, li30, li31, li32, li36, li40, li41, li42, li43, li44, li45, li47, li48, li57, li59, li60, li91, li93, li96, li97, li100, li105, li122, li150, li200, li255, li400, li500, li600, li999, li1000, li1001, li2000, li2001, li2002, li2003, li2004, li2005, li2006, li32767, li100000, li_neg, li13, li17, li21, li22, li28, li29, li33, li34, li35, li37, li38, li39, li46, li49, li50, li51, li52, li53, li63, li80, li115, li160]
theorem M_y3 (dM : DM R L) {y : YT} (h : YM N m P y) (oP : oPs P) {mm : Nat} (hm : mm ≤ 16) (kb : Nat → Int32 → Int32 → Int32 → Int32 → Int32 → Mm → Option Mm) (sd ds q k w b r : Int32) : ∃ N', f_M_yearsBy_c kb m sd ds q (nI mm) k w b r N = f_M_yearsBy_d kb m sd ds q (nI mm) k w b r N' ∧ YM N' m P (y3 R L mm y) ∧ FY m N N' := by
  obtain ⟨⟨t2, t3, t4⟩, t5, t6⟩ := h
  obtain ⟨oP, n0, n2, n5⟩ := oP
  have d4 := dM (N) m (16) _ (by omega) (by omega) t2
  have hlt : R (L y.1) % 16 < 16 := Nat.mod_lt _ (by omega)
  have i5 : isN (sI N m 51 (L y.1)) (m + 471) P y.2.1 := t3.fr ((Fr.rf (fun x => x = m) N).sI rfl) (by omega)
  have F6 : FY m N (sI N m 51 (L y.1)) := (FY.rf m N).sI (by omega)
  have l2 : gI (sI N m 51 (L y.1)) m 52 = nI y.2.2.2.1 := by rw [gI_ne (by omega)]; exact t5
  have l3 : gI (sI N m 51 (L y.1)) m 53 = nI y.2.2.2.2 := by rw [gI_ne (by omega)]; exact t6
  unfold y3
  by_cases c : R (L y.1) % 16 < mm
  · rw [if_pos c]
    obtain ⟨N8, r1, r2, r3⟩ := M_rains (a := m + 471) oP i5 t4 (lo := 1) (by omega)
    have F8 : FY m N N8 := F6.row r3
    have v1 : gI N8 m 51 = L y.1 := by rw [r3.i (by omega)]; exact gI_same ..
    have v2 : gI N8 m 52 = nI y.2.2.2.1 := by rw [r3.i (by omega)]; exact l2
    obtain c2 | c2 : rainy y.2.1 1 = 0 ∨ rainy y.2.1 1 = 1 := by unfold rainy; split <;> omega
    · rw [c2] at r1
      refine ⟨sI N8 m 53 (nI (y.2.2.2.2 + 0)), ?_, ⟨⟨by rw [gI_ne (by omega)]; exact v1, r2.fr ((Fr.rf (fun x => x = m) N8).sI rfl) (by omega), t4.rn 1⟩, by rw [gI_ne (by omega)]; exact v2, ?_⟩, F8.sI (by omega)⟩
      · simp (disch := omega) only [f_M_yearsBy_c, d4, r1, l3, bI_s, bV_s, bL_s, bR_s, bG_s, bG_n, bX_l, bX_r, ck_nI, nI_clamp, nI_leT, nI_leF, nI_ltT, nI_ltF, nI_eqF, nI_add, pk_mul, ofN, bt_e, or0, Nat.zero_add, Nat.add_zero, ↓reduceIte, if_true, if_false, Bool.false_eq_true, eq_self, li0, li1, li2, li3, li4, li5, li6, li7, li8, li9, li10, li11, li12, li14, li15, li16, li18, li19, li20, li23, li24, li25, li26, li27, li30, li31, li32, li36, li40, li41, li42, li43, li44, li45, li47, li48, li57, li59, li60, li91, li93, li96, li97, li100, li105, li122, li150, li200, li255, li400, li500, li600, li999, li1000, li1001, li2000, li2001, li2002, li2003, li2004, li2005, li2006, li32767, li100000, li_neg, li13, li17, li21, li22, li28, li29, li33, li34, li35, li37, li38, li39, li46, li49, li50, li51, li52, li53, li63, li80, li115, li160]
      · show _ = nI (y.2.2.2.2 + rainy y.2.1 1)
        rw [c2]; exact gI_same ..
    · rw [c2] at r1
      refine ⟨sI N8 m 53 (nI (y.2.2.2.2 + 1)), ?_, ⟨⟨by rw [gI_ne (by omega)]; exact v1, r2.fr ((Fr.rf (fun x => x = m) N8).sI rfl) (by omega), t4.rn 1⟩, by rw [gI_ne (by omega)]; exact v2, ?_⟩, F8.sI (by omega)⟩
      · simp (disch := omega) only [f_M_yearsBy_c, d4, r1, l3, bI_s, bV_s, bL_s, bR_s, bG_s, bG_n, bX_l, bX_r, ck_nI, nI_clamp, nI_leT, nI_leF, nI_ltT, nI_ltF, nI_eqF, nI_add, pk_mul, ofN, bt_e, or0, Nat.zero_add, Nat.add_zero, ↓reduceIte, if_true, if_false, Bool.false_eq_true, eq_self, li0, li1, li2, li3, li4, li5, li6, li7, li8, li9, li10, li11, li12, li14, li15, li16, li18, li19, li20, li23, li24, li25, li26, li27, li30, li31, li32, li36, li40, li41, li42, li43, li44, li45, li47, li48, li57, li59, li60, li91, li93, li96, li97, li100, li105, li122, li150, li200, li255, li400, li500, li600, li999, li1000, li1001, li2000, li2001, li2002, li2003, li2004, li2005, li2006, li32767, li100000, li_neg, li13, li17, li21, li22, li28, li29, li33, li34, li35, li37, li38, li39, li46, li49, li50, li51, li52, li53, li63, li80, li115, li160]
      · show _ = nI (y.2.2.2.2 + rainy y.2.1 1)
        rw [c2]; exact gI_same ..
  · rw [if_neg c]
    refine ⟨sI N m 51 (L y.1), ?_, ⟨⟨gI_same .., i5, t4⟩, l2, l3⟩, F6⟩
    simp (disch := omega) only [f_M_yearsBy_c, d4, bI_s, bV_s, bL_s, bR_s, bG_s, bG_n, bX_l, bX_r, ck_nI, nI_clamp, nI_leT, nI_leF, nI_ltT, nI_ltF, nI_eqF, nI_add, pk_mul, ofN, bt_e, or0, Nat.zero_add, Nat.add_zero, ↓reduceIte, if_true, if_false, Bool.false_eq_true, eq_self, li0, li1, li2, li3, li4, li5, li6, li7, li8, li9, li10, li11, li12, li14, li15, li16, li18, li19, li20, li23, li24, li25, li26, li27, li30, li31, li32, li36, li40, li41, li42, li43, li44, li45, li47, li48, li57, li59, li60, li91, li93, li96, li97, li100, li105, li122, li150, li200, li255, li400, li500, li600, li999, li1000, li1001, li2000, li2001, li2002, li2003, li2004, li2005, li2006, li32767, li100000, li_neg, li13, li17, li21, li22, li28, li29, li33, li34, li35, li37, li38, li39, li46, li49, li50, li51, li52, li53, li63, li80, li115, li160]
theorem M_y4 {y : YT} (h : YM N m P y) (hQ : isQ N m P) (oP : oPs P) {k : Nat} (hk : k ≤ 96) (kb : Nat → Int32 → Int32 → Int32 → Int32 → Int32 → Mm → Option Mm) (sd ds q mm w b r : Int32) : ∃ N', f_M_yearsBy_d kb m sd ds q mm (nI k) w b r N = kb m sd ds q mm (nI (k + 1)) N' ∧ YM N' m P (y4 P k y) ∧ FY m N N' := by
  obtain ⟨⟨t2, t3, t4⟩, t5, t6⟩ := h
  obtain ⟨oP, n0, n2, n5⟩ := oP
  have nq : ¬ qrg m (m + 471) := by unfold qrg; omega
  have hk4 : nI k - nI k / nI 4 * nI 4 = nI (k % 4) := pk_rem (by omega) (by omega) (by omega)
  have hm4 : k % 4 < 4 := Nat.mod_lt _ (by omega)
  unfold y4
  by_cases c : k % 4 = 0
  · rw [if_pos c]
    obtain ⟨N8, r1, r2, r3⟩ := M_nightEnds (a := m + 471) hQ oP t3 nq
    refine ⟨N8, ?_, ⟨⟨by rw [r3.i (by omega)]; exact t2, r2, t4.nt oP⟩, by rw [r3.i (by omega)]; exact t5, by rw [r3.i (by omega)]; exact t6⟩, (FY.rf m N).row r3⟩
    simp (disch := omega) only [f_M_yearsBy_d, hk4, c, r1, bI_s, bV_s, bL_s, bR_s, bG_s, bG_n, bX_l, bX_r, ck_nI, nI_clamp, nI_leT, nI_leF, nI_ltT, nI_ltF, nI_eqF, nI_add, pk_mul, ofN, bt_e, or0, Nat.zero_add, Nat.add_zero, ↓reduceIte, if_true, if_false, Bool.false_eq_true, eq_self, li0, li1, li2, li3, li4, li5, li6, li7, li8, li9, li10, li11, li12, li14, li15, li16, li18, li19, li20, li23, li24, li25, li26, li27, li30, li31, li32, li36, li40, li41, li42, li43, li44, li45, li47, li48, li57, li59, li60, li91, li93, li96, li97, li100, li105, li122, li150, li200, li255, li400, li500, li600, li999, li1000, li1001, li2000, li2001, li2002, li2003, li2004, li2005, li2006, li32767, li100000, li_neg, li13, li17, li21, li22, li28, li29, li33, li34, li35, li37, li38, li39, li46, li49, li50, li51, li52, li53, li63, li80, li115, li160]
  · rw [if_neg c]
    refine ⟨N, ?_, ⟨⟨t2, t3, t4⟩, t5, t6⟩, FY.rf m N⟩
    simp (disch := omega) only [f_M_yearsBy_d, hk4, c, bI_s, bV_s, bL_s, bR_s, bG_s, bG_n, bX_l, bX_r, ck_nI, nI_clamp, nI_leT, nI_leF, nI_ltT, nI_ltF, nI_eqF, nI_add, pk_mul, ofN, bt_e, or0, Nat.zero_add, Nat.add_zero, ↓reduceIte, if_true, if_false, Bool.false_eq_true, eq_self, li0, li1, li2, li3, li4, li5, li6, li7, li8, li9, li10, li11, li12, li14, li15, li16, li18, li19, li20, li23, li24, li25, li26, li27, li30, li31, li32, li36, li40, li41, li42, li43, li44, li45, li47, li48, li57, li59, li60, li91, li93, li96, li97, li100, li105, li122, li150, li200, li255, li400, li500, li600, li999, li1000, li1001, li2000, li2001, li2002, li2003, li2004, li2005, li2006, li32767, li100000, li_neg, li13, li17, li21, li22, li28, li29, li33, li34, li35, li37, li38, li39, li46, li49, li50, li51, li52, li53, li63, li80, li115, li160]
theorem M_dwn (dM : DM R L) {y : YT} (h : YM N m P y) (hQ : isQ N m P) (oP : oPs P) {q mm k ds : Nat} (hq : q ≤ 16) (hm : mm ≤ 16) (hk : k ≤ ds) (hds : ds ≤ 96) (sd : Int32) (u : Nat) : ∃ N', f_M_yearsBy_b (u + 1) m sd (nI ds) (nI q) (nI mm) (nI k) N = f_M_yearsBy_b u m sd (nI ds) (nI q) (nI mm) (nI (k + 1)) N' ∧ YM N' m P (dwn R L P q mm k y) ∧ FY m N N' := by
  have hb : yb R L P y < P 0 2 := Nat.mod_lt _ (by have := oP.2.2.1; omega)
  obtain ⟨N1, a1, a2, a3⟩ := M_y1 dM h hQ oP hk hds sd (nI q) (nI mm) u
  obtain ⟨N2, b1, b2, b3⟩ := M_y2 dM a2 (a3.isQ hQ oP.1) oP hq hb (f_M_yearsBy_b u) sd (nI ds) (nI mm) (nI k) (nI (yw R L P y)) (nI (yr R L P y))
  obtain ⟨N3, c1, c2, c3⟩ := M_y3 dM b2 oP hm (f_M_yearsBy_b u) sd (nI ds) (nI q) (nI k) (nI (yw R L P y)) (nI (yb R L P y)) (nI (yr R L P y))
  obtain ⟨N4, d1, d2, d3⟩ := M_y4 c2 (((a3.trans b3).trans c3).isQ hQ oP.1) oP (by omega : k ≤ 96) (f_M_yearsBy_b u) sd (nI ds) (nI q) (nI mm) (nI (yw R L P y)) (nI (yb R L P y)) (nI (yr R L P y))
  exact ⟨N4, a1.trans (b1.trans (c1.trans d1)), d2, ((a3.trans b3).trans c3).trans d3⟩
end
