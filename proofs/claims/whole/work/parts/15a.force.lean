/-! # functional level, 17: forces; line, would, force, mightiest, loud -/
/-- what a law is told of a line -/
def gvn (P W : TT) (i j : Nat) : Int32 := if j = 0 then nI (W 3 i) else if j = 1 then nI (P 3 (W 1 i)) else if j = 2 then nI (sm i (fun k => if W 3 k = W 3 i then 1 else 0)) else if j = 3 then nI (W 4 i) else if j = 4 then nI (W 2 i) else if j = 5 then nI (W 0 0) else if j = 6 then nI (P 4 (W 4 i)) else nI i
def fc (S : St) (i : Nat) : Int32 := wg (S.2.2.1 0 7) (S.2.2.1 2) (gvn S.1 S.2.1 i)
def ks (m a : Nat) : Prop := a = m + 387 ∨ a = m + 388
/-- eight numbers in a row -/
def g8 (a0 a1 a2 a3 a4 a5 a6 a7 : Int32) (j : Nat) : Int32 := if j = 0 then a0 else if j = 1 then a1 else if j = 2 then a2 else if j = 3 then a3 else if j = 4 then a4 else if j = 5 then a5 else if j = 6 then a6 else a7
theorem g8_mem {M : Mm} {a : Nat} {a0 a1 a2 a3 a4 a5 a6 a7 : Int32} : ∀ j, j < 8 → gI (sI (sI (sI (sI (sI (sI (sI (sI M a 0 a0) a 1 a1) a 2 a2) a 3 a3) a 4 a4) a 5 a5) a 6 a6) a 7 a7) a j = g8 a0 a1 a2 a3 a4 a5 a6 a7 j := by
  intro j hj
  match j, hj with
  | 0, _ => simp (disch := omega) only [gI_same, gI_ne, gI_eq2, gR_sI, gL_sI, gI_sL, gR_sL, gI_sR, gL_sR]; rfl
  | 1, _ => simp (disch := omega) only [gI_same, gI_ne, gI_eq2, gR_sI, gL_sI, gI_sL, gR_sL, gI_sR, gL_sR]; rfl
  | 2, _ => simp (disch := omega) only [gI_same, gI_ne, gI_eq2, gR_sI, gL_sI, gI_sL, gR_sL, gI_sR, gL_sR]; rfl
  | 3, _ => simp (disch := omega) only [gI_same, gI_ne, gI_eq2, gR_sI, gL_sI, gI_sL, gR_sL, gI_sR, gL_sR]; rfl
  | 4, _ => simp (disch := omega) only [gI_same, gI_ne, gI_eq2, gR_sI, gL_sI, gI_sL, gR_sL, gI_sR, gL_sR]; rfl
  | 5, _ => simp (disch := omega) only [gI_same, gI_ne, gI_eq2, gR_sI, gL_sI, gI_sL, gR_sL, gI_sR, gL_sR]; rfl
  | 6, _ => simp (disch := omega) only [gI_same, gI_ne, gI_eq2, gR_sI, gL_sI, gI_sL, gR_sL, gI_sR, gL_sR]; rfl
  | 7, _ => simp (disch := omega) only [gI_same, gI_ne, gI_eq2, gR_sI, gL_sI, gI_sL, gR_sL, gI_sR, gL_sR]; rfl
section
variable {M M' M1 N : Mm} {o m : Nat} {S : St} {P W : TT}
theorem CI.scr (h : CI M o S) (f : Fr (scr o) M M') (hn : o + 561 ≤ nx M) : CI M' o S := h.mv (f.eqx (fun a ha => Or.inl ha)) hn (fun a ha => ha)
theorem MJ.ksm (h : MJ M m S) (hO : oS S) (f : Fr (ks m) M M') : MJ M' m S := h.mv hO (fun a j _ _ hs => f.i (fun z => hs (Or.inl (by unfold ks at z; omega))) j)
theorem FM.ksm (f : Fr (ks m) M M') : FM m M M' := FM.ofFr f (fun a ha j => Or.inl (by unfold ks at ha; omega))
theorem C_would8 {l p : Nat} (hl : l = o + 53 ∨ l = o + 56) (hr : gR M o 12 = some l) (hL : isLw M l (S.2.2.1 0 7) (S.2.2.1 2)) (oK : okK (S.2.2.1 0 7) (S.2.2.1 2)) {g : Nat → Int32} (hg : ∀ j, j < 8 → gI M (o + 34) j = g j) : ∃ M', f_Law_weigh l (o + 34) 8 M = some (wg (S.2.2.1 0 7) (S.2.2.1 2) g, M') ∧ Fr (scr o) M M' := by
  obtain ⟨M', e, f⟩ := C_weighW hL oK hg (by omega)
  exact ⟨M', e, f.mono (fun a (ha : a = l + 2) => by unfold scr; omega)⟩
theorem C_forceOf (hC : CI M o S) (hO : oS S) (hn : o + 561 ≤ nx M) {i : Nat} (hi : i < S.2.1 0 2) : ∃ M', f_C_forceOf o (nI i) M = some (fc S i, M') ∧ Fr (scr o) M M' := by
  obtain ⟨p, l, d, hr, ⟨hP, hW⟩, _, ⟨hL, _⟩, _⟩ := id hC
  have oP := hO.1.1
  have oW := hO.1.2.1
  have oK := hO.2.1.2
  have hp := hr.1.1
  have hl := hr.1.2.1
  have hr10 := hr.2.1.1
  have hr12 := hr.2.2.1.1
  have hLb := oW.l
  have h1 := oW.b hi
  have h2 := oW.w hi
  have h3 := oW.r hi
  have hBb := oP.b
  have hWb := oP.w
  have hRb := oP.r
  have et : ∀ N : Mm, (∀ k, k < i → gI N (o + 8 + 3) k = nI (S.2.1 3 k)) → f_Wall_timesIn (o + 8 + 3) 20 (nI i) (nI (S.2.1 3 i)) N = some (nI (sm i (fun k => if S.2.1 3 k = S.2.1 3 i then 1 else 0)), N) := fun N hN => C_timesIn (by omega) (by omega) (fun k hk => ⟨hN k hk, by have := oW.r (show k < S.2.1 0 2 by omega); omega⟩)
  have et2 := et (sI (sI M (o + 34) 0 (nI (S.2.1 3 i))) (o + 34) 1 (nI (S.1 3 (S.2.1 1 i)))) (fun k hk => by rw [gI_ne (by omega), gI_ne (by omega)]; exact hW.r (by omega))
  have e : f_Wall_describe (o + 8) p (nI i) (o + 34) 8 M = some (sI (sI (sI (sI (sI (sI (sI (sI M (o + 34) 0 (nI (S.2.1 3 i))) (o + 34) 1 (nI (S.1 3 (S.2.1 1 i)))) (o + 34) 2 (nI (sm i (fun k => if S.2.1 3 k = S.2.1 3 i then 1 else 0)))) (o + 34) 3 (nI (S.2.1 4 i))) (o + 34) 4 (nI (S.2.1 2 i))) (o + 34) 5 (nI (S.2.1 0 0))) (o + 34) 6 (nI (S.1 4 (S.2.1 4 i)))) (o + 34) 7 (nI i)) := by
    simp (disch := omega) only [f_Wall_describe, hW.r hi, hW.b hi, hW.w hi, hW.ac hi, hW.d0, hP.len h1, hP.rch h2, et2, bI_s, bV_s, bL_s, bR_s, bG_s, bG_n, bX_l, bX_r, ck_nI, nI_clamp, nI_leT, nI_leF, nI_ltT, nI_ltF, nI_eqF, nI_add, pk_mul, ofN, bt_e, or0, Nat.zero_add, Nat.add_zero, ↓reduceIte, if_true, if_false, Bool.false_eq_true, eq_self, li0, li1, li2, li3, li4, li5, li6, li7, li8, li9, li10, li11, li12, li14, li15, li16, li18, li19, li20, li23, li24, li25, li26, li27, li30, li31, li32, li36, li40, li41, li42, li43, li44, li45, li47, li48, li57, li59, li60, li91, li93, li96, li97, li100, li105, li122, li150, li200, li255, li400, li500, li600, li999, li1000, li1001, li2000, li2001, li2002, li2003, li2004, li2005, li2006, li32767, li100000, li_neg, li13, li17, li21, li22, li28, li29, li33, li34, li35, li37, li38, li39, li46, li49, li50, li51, li52, li53, li63, li80, li115, li160, gI_same, gI_ne, gI_eq2, gR_sI, gL_sI, gI_sL, gR_sL, gI_sR, gL_sR]
  have f0 : Fr (scr o) M (sI (sI (sI (sI (sI (sI (sI (sI M (o + 34) 0 (nI (S.2.1 3 i))) (o + 34) 1 (nI (S.1 3 (S.2.1 1 i)))) (o + 34) 2 (nI (sm i (fun k => if S.2.1 3 k = S.2.1 3 i then 1 else 0)))) (o + 34) 3 (nI (S.2.1 4 i))) (o + 34) 4 (nI (S.2.1 2 i))) (o + 34) 5 (nI (S.2.1 0 0))) (o + 34) 6 (nI (S.1 4 (S.2.1 4 i)))) (o + 34) 7 (nI i)) := by
    have z : scr o (o + 34) := by unfold scr; omega
    exact ((((((((Fr.rf (scr o) M).sI z).sI z).sI z).sI z).sI z).sI z).sI z).sI z
  have hL' : isLw (sI (sI (sI (sI (sI (sI (sI (sI M (o + 34) 0 (nI (S.2.1 3 i))) (o + 34) 1 (nI (S.1 3 (S.2.1 1 i)))) (o + 34) 2 (nI (sm i (fun k => if S.2.1 3 k = S.2.1 3 i then 1 else 0)))) (o + 34) 3 (nI (S.2.1 4 i))) (o + 34) 4 (nI (S.2.1 2 i))) (o + 34) 5 (nI (S.2.1 0 0))) (o + 34) 6 (nI (S.1 4 (S.2.1 4 i)))) (o + 34) 7 (nI i)) l (S.2.2.1 0 7) (S.2.2.1 2) := by
    have g1 : ∀ a, a = l ∨ a = l + 1 → ∀ j, gI (sI (sI (sI (sI (sI (sI (sI (sI M (o + 34) 0 (nI (S.2.1 3 i))) (o + 34) 1 (nI (S.1 3 (S.2.1 1 i)))) (o + 34) 2 (nI (sm i (fun k => if S.2.1 3 k = S.2.1 3 i then 1 else 0)))) (o + 34) 3 (nI (S.2.1 4 i))) (o + 34) 4 (nI (S.2.1 2 i))) (o + 34) 5 (nI (S.2.1 0 0))) (o + 34) 6 (nI (S.1 4 (S.2.1 4 i)))) (o + 34) 7 (nI i)) a j = gI M a j := fun a ha j => f0.i (by unfold scr; omega) j
    unfold isLw isL at hL ⊢
    rw [g1 l (Or.inl rfl)]
    by_cases c : S.2.2.1 0 7 = 0
    · rw [if_pos c] at hL ⊢
      exact ⟨hL.1, fun k hk => by rw [g1 _ (Or.inr rfl)]; exact hL.2 k hk⟩
    · rw [if_neg c] at hL ⊢
      exact ⟨hL.1, fun k hk => by rw [g1 _ (Or.inr rfl)]; exact hL.2 k hk⟩
  obtain ⟨M', e2, f2⟩ := C_would8 (p := p) hl (by rw [f0.r (by unfold scr; omega)]; exact hr12) hL' oK (g := gvn S.1 S.2.1 i) (fun j hj => g8_mem j hj)
  refine ⟨M', ?_, f0.trans f2⟩
  have hr12' := hr12
  rw [← f0.r (show ¬ scr o o by unfold scr; omega)] at hr12'
  simp (disch := omega) only [f_C_forceOf, hr10, e, hr12', e2, bI_s, bV_s, bL_s, bR_s, bG_s, bG_n, bX_l, bX_r, ck_nI, nI_clamp, nI_leT, nI_leF, nI_ltT, nI_ltF, nI_eqF, nI_add, pk_mul, ofN, bt_e, or0, Nat.zero_add, Nat.add_zero, ↓reduceIte, if_true, if_false, Bool.false_eq_true, eq_self, li0, li1, li2, li3, li4, li5, li6, li7, li8, li9, li10, li11, li12, li14, li15, li16, li18, li19, li20, li23, li24, li25, li26, li27, li30, li31, li32, li36, li40, li41, li42, li43, li44, li45, li47, li48, li57, li59, li60, li91, li93, li96, li97, li100, li105, li122, li150, li200, li255, li400, li500, li600, li999, li1000, li1001, li2000, li2001, li2002, li2003, li2004, li2005, li2006, li32767, li100000, li_neg, li13, li17, li21, li22, li28, li29, li33, li34, li35, li37, li38, li39, li46, li49, li50, li51, li52, li53, li63, li80, li115, li160]
  rfl
theorem M_forceBy (hm : MJ N m S) (hO : oS S) (a0 a1 a2 a3 a4 a5 a6 a7 : Int32) : ∃ N', f_M_forceBy m a0 a1 a2 a3 a4 a5 a6 a7 N = some (wg (S.2.2.1 0 7) (S.2.2.1 2) (g8 a0 a1 a2 a3 a4 a5 a6 a7), N') ∧ Fr (ks m) N N' := by
  have z : ks m (m + 388) := Or.inr rfl
  have f0 : Fr (ks m) N (sI (sI (sI (sI (sI (sI (sI (sI N (m + 388) 0 a0) (m + 388) 1 a1) (m + 388) 2 a2) (m + 388) 3 a3) (m + 388) 4 a4) (m + 388) 5 a5) (m + 388) 6 a6) (m + 388) 7 a7) := ((((((((Fr.rf (ks m) N).sI z).sI z).sI z).sI z).sI z).sI z).sI z).sI z
  obtain ⟨N', e, f⟩ := M_byLaw (hm.ksm hO f0).2.2.1.1 hO.2.1.2 (g := g8 a0 a1 a2 a3 a4 a5 a6 a7) (fun j hj => g8_mem j hj)
  refine ⟨N', ?_, f0.trans (f.mono (fun a ha => Or.inl ha))⟩
  simp (disch := omega) only [f_M_forceBy, e, bI_s, bV_s, bL_s, bR_s, bG_s, bG_n, bX_l, bX_r, ck_nI, nI_clamp, nI_leT, nI_leF, nI_ltT, nI_ltF, nI_eqF, nI_add, pk_mul, ofN, bt_e, or0, Nat.zero_add, Nat.add_zero, ↓reduceIte, if_true, if_false, Bool.false_eq_true, eq_self, li0, li1, li2, li3, li4, li5, li6, li7, li8, li9, li10, li11, li12, li14, li15, li16, li18, li19, li20, li23, li24, li25, li26, li27, li30, li31, li32, li36, li40, li41, li42, li43, li44, li45, li47, li48, li57, li59, li60, li91, li93, li96, li97, li100, li105, li122, li150, li200, li255, li400, li500, li600, li999, li1000, li1001, li2000, li2001, li2002, li2003, li2004, li2005, li2006, li32767, li100000, li_neg, li13, li17, li21, li22, li28, li29, li33, li34, li35, li37, li38, li39, li46, li49, li50, li51, li52, li53, li63, li80, li115, li160]
theorem M_forceOf (hm : MJ N m S) (hO : oS S) {i : Nat} (hi : i < S.2.1 0 2) : ∃ N', f_M_forceOf m (nI i) N = some (fc S i, N') ∧ Fr (ks m) N N' := by
  have oP := hO.1.1
  have oW := hO.1.2.1
  have hLb := oW.l
  have h1 := oW.b hi
  have h2 := oW.w hi
  have h3 := oW.r hi
  have hBb := oP.b
  have hWb := oP.w
  have hRb := oP.r
  obtain ⟨N', e, f⟩ := M_forceBy hm hO (nI (S.2.1 3 i)) (nI (S.1 3 (S.2.1 1 i))) (nI (sm i (fun k => if S.2.1 3 k = S.2.1 3 i then 1 else 0))) (nI (S.2.1 4 i)) (nI (S.2.1 2 i)) (nI (S.2.1 0 0)) (nI (S.1 4 (S.2.1 4 i))) (nI i)
  refine ⟨N', ?_, f⟩
  have key := lp_up (fun u k s => f_M_forceOf_b u m (nI i) (nI (S.2.1 3 i)) (nI (S.2.1 4 i)) (nI s) (nI k) N) i (fun k s => s + if S.2.1 3 k = S.2.1 3 i then 1 else 0) (some (fc S i, N')) 0 (fun u k s hk => ?_) (fun u => ?_) FU (FU_lt (by omega))
  · simp (disch := omega) only [f_M_forceOf, (M_lineOf hm.1.2 oW hi).2.1, (M_lineOf hm.1.2 oW hi).2.2, bI_s, bV_s, bL_s, bR_s, bG_s, bG_n, bX_l, bX_r, ck_nI, nI_clamp, nI_leT, nI_leF, nI_ltT, nI_ltF, nI_eqF, nI_add, pk_mul, ofN, bt_e, or0, Nat.zero_add, Nat.add_zero, ↓reduceIte, if_true, if_false, Bool.false_eq_true, eq_self, li0, li1, li2, li3, li4, li5, li6, li7, li8, li9, li10, li11, li12, li14, li15, li16, li18, li19, li20, li23, li24, li25, li26, li27, li30, li31, li32, li36, li40, li41, li42, li43, li44, li45, li47, li48, li57, li59, li60, li91, li93, li96, li97, li100, li105, li122, li150, li200, li255, li400, li500, li600, li999, li1000, li1001, li2000, li2001, li2002, li2003, li2004, li2005, li2006, li32767, li100000, li_neg, li13, li17, li21, li22, li28, li29, li33, li34, li35, li37, li38, li39, li46, li49, li50, li51, li52, li53, li63, li80, li115, li160]
    exact key
  · have hk' : k < S.2.1 0 2 := by omega
    have h4 := oW.r hk'
    by_cases c : S.2.1 3 k = S.2.1 3 i
    · simp (disch := omega) only [f_M_forceOf_b, (M_lineOf hm.1.2 oW hk').2.1, c, bI_s, bV_s, bL_s, bR_s, bG_s, bG_n, bX_l, bX_r, ck_nI, nI_clamp, nI_leT, nI_leF, nI_ltT, nI_ltF, nI_eqF, nI_add, pk_mul, ofN, bt_e, or0, Nat.zero_add, Nat.add_zero, ↓reduceIte, if_true, if_false, Bool.false_eq_true, eq_self, li0, li1, li2, li3, li4, li5, li6, li7, li8, li9, li10, li11, li12, li14, li15, li16, li18, li19, li20, li23, li24, li25, li26, li27, li30, li31, li32, li36, li40, li41, li42, li43, li44, li45, li47, li48, li57, li59, li60, li91, li93, li96, li97, li100, li105, li122, li150, li200, li255, li400, li500, li600, li999, li1000, li1001, li2000, li2001, li2002, li2003, li2004, li2005, li2006, li32767, li100000, li_neg, li13, li17, li21, li22, li28, li29, li33, li34, li35, li37, li38, li39, li46, li49, li50, li51, li52, li53, li63, li80, li115, li160]
    · simp (disch := omega) only [f_M_forceOf_b, (M_lineOf hm.1.2 oW hk').2.1, c, bI_s, bV_s, bL_s, bR_s, bG_s, bG_n, bX_l, bX_r, ck_nI, nI_clamp, nI_leT, nI_leF, nI_ltT, nI_ltF, nI_eqF, nI_add, pk_mul, ofN, bt_e, or0, Nat.zero_add, Nat.add_zero, ↓reduceIte, if_true, if_false, Bool.false_eq_true, eq_self, li0, li1, li2, li3, li4, li5, li6, li7, li8, li9, li10, li11, li12, li14, li15, li16, li18, li19, li20, li23, li24, li25, li26, li27, li30, li31, li32, li36, li40, li41, li42, li43, li44, li45, li47, li48, li57, li59, li60, li91, li93, li96, li97, li100, li105, li122, li150, li200, li255, li400, li500, li600, li999, li1000, li1001, li2000, li2001, li2002, li2003, li2004, li2005, li2006, li32767, li100000, li_neg, li13, li17, li21, li22, li28, li29, li33, li34, li35, li37, li38, li39, li46, li49, li50, li51, li52, li53, li63, li80, li115, li160]
  · rw [fo_sm _ (fun k s _ => rfl)]
    simp (disch := omega) only [f_M_forceOf_b, (M_lineOf hm.1.2 oW hi).1.1, (M_lineOf hm.1.2 oW hi).1.2, hm.1.1.len h1, hm.1.1.rch h2, hm.1.2.d0, e, bI_s, bV_s, bL_s, bR_s, bG_s, bG_n, bX_l, bX_r, ck_nI, nI_clamp, nI_leT, nI_leF, nI_ltT, nI_ltF, nI_eqF, nI_add, pk_mul, ofN, bt_e, or0, Nat.zero_add, Nat.add_zero, ↓reduceIte, if_true, if_false, Bool.false_eq_true, eq_self, li0, li1, li2, li3, li4, li5, li6, li7, li8, li9, li10, li11, li12, li14, li15, li16, li18, li19, li20, li23, li24, li25, li26, li27, li30, li31, li32, li36, li40, li41, li42, li43, li44, li45, li47, li48, li57, li59, li60, li91, li93, li96, li97, li100, li105, li122, li150, li200, li255, li400, li500, li600, li999, li1000, li1001, li2000, li2001, li2002, li2003, li2004, li2005, li2006, li32767, li100000, li_neg, li13, li17, li21, li22, li28, li29, li33, li34, li35, li37, li38, li39, li46, li49, li50, li51, li52, li53, li63, li80, li115, li160]
    rfl
/-! line, would -/
theorem A_line (h : InvS o M S) (p0 p1 : Int32) : Ag cd2 Int32.toInt64 o (fun k => k ≤ 1) (f_C_line o p0 p1 M) (fun M1 => f_M_line (o + 61) p0 p1 M1) := by
  obtain ⟨p, l, d, hr, ⟨hP, hW⟩, ⟨⟨t1, t2⟩, t3, ⟨t4, t5, t6⟩, t7, t8⟩, ⟨hL, hD⟩, oP, oW⟩ := h.u
  have hr10 := hr.2.1.1
  have hr12 := hr.2.2.1.1
  have hr14 := hr.2.2.2.1
  have hRb := oP.r
  have hBb := oP.b
  have hWb := oP.w
  have hLb := oW.l
  have hO := h.2.2.1
  rcases bel p0 (S.2.1 0 2) (by omega) with ⟨r, h1, rfl⟩ | ⟨b1, b2, _⟩
  · have z1 : nI (S.2.1 0 2) - nI 1 = nI (S.2.1 0 2 - 1) := pk_sub (by omega)
    rcases wth p1 0 4 (by omega) (by omega) with ⟨j, _, h2, rfl⟩ | ⟨w1, w2⟩
    · obtain q | q | q | q | q : j = 0 ∨ j = 1 ∨ j = 2 ∨ j = 3 ∨ j = 4 := by omega
      · subst q
        refine agR0 h (v := nI (S.2.1 1 r)) ?_ (fun M1 hm => ?_)
        · simp (disch := omega) only [f_C_line, hW.l, hW.b h1, C_belT, C_inT, f_C_mustBe, f_C_mustExist, bI_s, bV_s, bL_s, bR_s, bG_s, bG_n, bX_l, bX_r, ck_nI, nI_clamp, nI_leT, nI_leF, nI_ltT, nI_ltF, nI_eqF, nI_add, pk_mul, ofN, bt_e, or0, Nat.zero_add, Nat.add_zero, ↓reduceIte, if_true, if_false, Bool.false_eq_true, eq_self, li0, li1, li2, li3, li4, li5, li6, li7, li8, li9, li10, li11, li12, li14, li15, li16, li18, li19, li20, li23, li24, li25, li26, li27, li30, li31, li32, li36, li40, li41, li42, li43, li44, li45, li47, li48, li57, li59, li60, li91, li93, li96, li97, li100, li105, li122, li150, li200, li255, li400, li500, li600, li999, li1000, li1001, li2000, li2001, li2002, li2003, li2004, li2005, li2006, li32767, li100000, li_neg, li13, li17, li21, li22, li28, li29, li33, li34, li35, li37, li38, li39, li46, li49, li50, li51, li52, li53, li63, li80, li115, li160]
        · simp (disch := omega) only [f_M_line, f_M_line_b, f_M_line_c, hm.1.2.l, z1, (M_lineOf hm.1.2 oW h1).1.1, M_inT, hm.b0, bI_s, bV_s, bL_s, bR_s, bG_s, bG_n, bX_l, bX_r, ck_nI, nI_clamp, nI_leT, nI_leF, nI_ltT, nI_ltF, nI_eqF, nI_add, pk_mul, ofN, bt_e, or0, Nat.zero_add, Nat.add_zero, ↓reduceIte, if_true, if_false, Bool.false_eq_true, eq_self, li0, li1, li2, li3, li4, li5, li6, li7, li8, li9, li10, li11, li12, li14, li15, li16, li18, li19, li20, li23, li24, li25, li26, li27, li30, li31, li32, li36, li40, li41, li42, li43, li44, li45, li47, li48, li57, li59, li60, li91, li93, li96, li97, li100, li105, li122, li150, li200, li255, li400, li500, li600, li999, li1000, li1001, li2000, li2001, li2002, li2003, li2004, li2005, li2006, li32767, li100000, li_neg, li13, li17, li21, li22, li28, li29, li33, li34, li35, li37, li38, li39, li46, li49, li50, li51, li52, li53, li63, li80, li115, li160]
      · subst q
        refine agR0 h (v := nI (S.2.1 2 r)) ?_ (fun M1 hm => ?_)
        · simp (disch := omega) only [f_C_line, hW.l, hW.ac h1, C_belT, C_inT, f_C_mustBe, f_C_mustExist, bI_s, bV_s, bL_s, bR_s, bG_s, bG_n, bX_l, bX_r, ck_nI, nI_clamp, nI_leT, nI_leF, nI_ltT, nI_ltF, nI_eqF, nI_add, pk_mul, ofN, bt_e, or0, Nat.zero_add, Nat.add_zero, ↓reduceIte, if_true, if_false, Bool.false_eq_true, eq_self, li0, li1, li2, li3, li4, li5, li6, li7, li8, li9, li10, li11, li12, li14, li15, li16, li18, li19, li20, li23, li24, li25, li26, li27, li30, li31, li32, li36, li40, li41, li42, li43, li44, li45, li47, li48, li57, li59, li60, li91, li93, li96, li97, li100, li105, li122, li150, li200, li255, li400, li500, li600, li999, li1000, li1001, li2000, li2001, li2002, li2003, li2004, li2005, li2006, li32767, li100000, li_neg, li13, li17, li21, li22, li28, li29, li33, li34, li35, li37, li38, li39, li46, li49, li50, li51, li52, li53, li63, li80, li115, li160]
        · simp (disch := omega) only [f_M_line, f_M_line_b, f_M_line_c, hm.1.2.l, z1, (M_lineOf hm.1.2 oW h1).1.2, M_inT, hm.b0, bI_s, bV_s, bL_s, bR_s, bG_s, bG_n, bX_l, bX_r, ck_nI, nI_clamp, nI_leT, nI_leF, nI_ltT, nI_ltF, nI_eqF, nI_add, pk_mul, ofN, bt_e, or0, Nat.zero_add, Nat.add_zero, ↓reduceIte, if_true, if_false, Bool.false_eq_true, eq_self, li0, li1, li2, li3, li4, li5, li6, li7, li8, li9, li10, li11, li12, li14, li15, li16, li18, li19, li20, li23, li24, li25, li26, li27, li30, li31, li32, li36, li40, li41, li42, li43, li44, li45, li47, li48, li57, li59, li60, li91, li93, li96, li97, li100, li105, li122, li150, li200, li255, li400, li500, li600, li999, li1000, li1001, li2000, li2001, li2002, li2003, li2004, li2005, li2006, li32767, li100000, li_neg, li13, li17, li21, li22, li28, li29, li33, li34, li35, li37, li38, li39, li46, li49, li50, li51, li52, li53, li63, li80, li115, li160]
      · subst q
        refine agR0 h (v := nI (S.2.1 3 r)) ?_ (fun M1 hm => ?_)
        · simp (disch := omega) only [f_C_line, hW.l, hW.r h1, C_belT, C_inT, f_C_mustBe, f_C_mustExist, bI_s, bV_s, bL_s, bR_s, bG_s, bG_n, bX_l, bX_r, ck_nI, nI_clamp, nI_leT, nI_leF, nI_ltT, nI_ltF, nI_eqF, nI_add, pk_mul, ofN, bt_e, or0, Nat.zero_add, Nat.add_zero, ↓reduceIte, if_true, if_false, Bool.false_eq_true, eq_self, li0, li1, li2, li3, li4, li5, li6, li7, li8, li9, li10, li11, li12, li14, li15, li16, li18, li19, li20, li23, li24, li25, li26, li27, li30, li31, li32, li36, li40, li41, li42, li43, li44, li45, li47, li48, li57, li59, li60, li91, li93, li96, li97, li100, li105, li122, li150, li200, li255, li400, li500, li600, li999, li1000, li1001, li2000, li2001, li2002, li2003, li2004, li2005, li2006, li32767, li100000, li_neg, li13, li17, li21, li22, li28, li29, li33, li34, li35, li37, li38, li39, li46, li49, li50, li51, li52, li53, li63, li80, li115, li160]
        · simp (disch := omega) only [f_M_line, f_M_line_b, f_M_line_c, hm.1.2.l, z1, (M_lineOf hm.1.2 oW h1).2.1, M_inT, hm.b0, bI_s, bV_s, bL_s, bR_s, bG_s, bG_n, bX_l, bX_r, ck_nI, nI_clamp, nI_leT, nI_leF, nI_ltT, nI_ltF, nI_eqF, nI_add, pk_mul, ofN, bt_e, or0, Nat.zero_add, Nat.add_zero, ↓reduceIte, if_true, if_false, Bool.false_eq_true, eq_self, li0, li1, li2, li3, li4, li5, li6, li7, li8, li9, li10, li11, li12, li14, li15, li16, li18, li19, li20, li23, li24, li25, li26, li27, li30, li31, li32, li36, li40, li41, li42, li43, li44, li45, li47, li48, li57, li59, li60, li91, li93, li96, li97, li100, li105, li122, li150, li200, li255, li400, li500, li600, li999, li1000, li1001, li2000, li2001, li2002, li2003, li2004, li2005, li2006, li32767, li100000, li_neg, li13, li17, li21, li22, li28, li29, li33, li34, li35, li37, li38, li39, li46, li49, li50, li51, li52, li53, li63, li80, li115, li160]
      · subst q
        refine agR0 h (v := nI (S.2.1 4 r)) ?_ (fun M1 hm => ?_)
        · simp (disch := omega) only [f_C_line, hW.l, hW.w h1, C_belT, C_inT, f_C_mustBe, f_C_mustExist, bI_s, bV_s, bL_s, bR_s, bG_s, bG_n, bX_l, bX_r, ck_nI, nI_clamp, nI_leT, nI_leF, nI_ltT, nI_ltF, nI_eqF, nI_add, pk_mul, ofN, bt_e, or0, Nat.zero_add, Nat.add_zero, ↓reduceIte, if_true, if_false, Bool.false_eq_true, eq_self, li0, li1, li2, li3, li4, li5, li6, li7, li8, li9, li10, li11, li12, li14, li15, li16, li18, li19, li20, li23, li24, li25, li26, li27, li30, li31, li32, li36, li40, li41, li42, li43, li44, li45, li47, li48, li57, li59, li60, li91, li93, li96, li97, li100, li105, li122, li150, li200, li255, li400, li500, li600, li999, li1000, li1001, li2000, li2001, li2002, li2003, li2004, li2005, li2006, li32767, li100000, li_neg, li13, li17, li21, li22, li28, li29, li33, li34, li35, li37, li38, li39, li46, li49, li50, li51, li52, li53, li63, li80, li115, li160]
        · simp (disch := omega) only [f_M_line, f_M_line_b, f_M_line_c, hm.1.2.l, z1, (M_lineOf hm.1.2 oW h1).2.2, M_inT, hm.b0, bI_s, bV_s, bL_s, bR_s, bG_s, bG_n, bX_l, bX_r, ck_nI, nI_clamp, nI_leT, nI_leF, nI_ltT, nI_ltF, nI_eqF, nI_add, pk_mul, ofN, bt_e, or0, Nat.zero_add, Nat.add_zero, ↓reduceIte, if_true, if_false, Bool.false_eq_true, eq_self, li0, li1, li2, li3, li4, li5, li6, li7, li8, li9, li10, li11, li12, li14, li15, li16, li18, li19, li20, li23, li24, li25, li26, li27, li30, li31, li32, li36, li40, li41, li42, li43, li44, li45, li47, li48, li57, li59, li60, li91, li93, li96, li97, li100, li105, li122, li150, li200, li255, li400, li500, li600, li999, li1000, li1001, li2000, li2001, li2002, li2003, li2004, li2005, li2006, li32767, li100000, li_neg, li13, li17, li21, li22, li28, li29, li33, li34, li35, li37, li38, li39, li46, li49, li50, li51, li52, li53, li63, li80, li115, li160]
      · subst q
        obtain ⟨M', e, f⟩ := C_forceOf h.1 hO h.2.2.2.1 h1
        refine agR h (v := fc S r) (M' := M') ?_ f (fun M1 hm => ?_)
        · simp (disch := omega) only [f_C_line, hW.l, e, C_belT, C_inT, f_C_mustBe, f_C_mustExist, bI_s, bV_s, bL_s, bR_s, bG_s, bG_n, bX_l, bX_r, ck_nI, nI_clamp, nI_leT, nI_leF, nI_ltT, nI_ltF, nI_eqF, nI_add, pk_mul, ofN, bt_e, or0, Nat.zero_add, Nat.add_zero, ↓reduceIte, if_true, if_false, Bool.false_eq_true, eq_self, li0, li1, li2, li3, li4, li5, li6, li7, li8, li9, li10, li11, li12, li14, li15, li16, li18, li19, li20, li23, li24, li25, li26, li27, li30, li31, li32, li36, li40, li41, li42, li43, li44, li45, li47, li48, li57, li59, li60, li91, li93, li96, li97, li100, li105, li122, li150, li200, li255, li400, li500, li600, li999, li1000, li1001, li2000, li2001, li2002, li2003, li2004, li2005, li2006, li32767, li100000, li_neg, li13, li17, li21, li22, li28, li29, li33, li34, li35, li37, li38, li39, li46, li49, li50, li51, li52, li53, li63, li80, li115, li160]
        · obtain ⟨N', e2, f2⟩ := M_forceOf hm hO h1
          refine ⟨N', ?_, ?_, FM.ksm f2⟩
          · simp (disch := omega) only [f_M_line, f_M_line_b, f_M_line_c, hm.1.2.l, z1, e2, M_inT, hm.b0, bI_s, bV_s, bL_s, bR_s, bG_s, bG_n, bX_l, bX_r, ck_nI, nI_clamp, nI_leT, nI_leF, nI_ltT, nI_ltF, nI_eqF, nI_add, pk_mul, ofN, bt_e, or0, Nat.zero_add, Nat.add_zero, ↓reduceIte, if_true, if_false, Bool.false_eq_true, eq_self, li0, li1, li2, li3, li4, li5, li6, li7, li8, li9, li10, li11, li12, li14, li15, li16, li18, li19, li20, li23, li24, li25, li26, li27, li30, li31, li32, li36, li40, li41, li42, li43, li44, li45, li47, li48, li57, li59, li60, li91, li93, li96, li97, li100, li105, li122, li150, li200, li255, li400, li500, li600, li999, li1000, li1001, li2000, li2001, li2002, li2003, li2004, li2005, li2006, li32767, li100000, li_neg, li13, li17, li21, li22, li28, li29, li33, li34, li35, li37, li38, li39, li46, li49, li50, li51, li52, li53, li63, li80, li115, li160]
          · rw [f2.i (by unfold ks; omega)]; exact gI_same ..
    · refine agE1 h (cc := 2) (by omega) rfl (by omega) ?_ (nI 0) (fun M1 hm => ?_)
      · simp (disch := omega) only [f_C_line, hW.l, C_belT, w1, f_C_mustBe, f_C_mustExist, t6, bI_s, bV_s, bL_s, bR_s, bG_s, bG_n, bX_l, bX_r, ck_nI, nI_clamp, nI_leT, nI_leF, nI_ltT, nI_ltF, nI_eqF, nI_add, pk_mul, ofN, bt_e, or0, Nat.zero_add, Nat.add_zero, ↓reduceIte, if_true, if_false, Bool.false_eq_true, eq_self, li0, li1, li2, li3, li4, li5, li6, li7, li8, li9, li10, li11, li12, li14, li15, li16, li18, li19, li20, li23, li24, li25, li26, li27, li30, li31, li32, li36, li40, li41, li42, li43, li44, li45, li47, li48, li57, li59, li60, li91, li93, li96, li97, li100, li105, li122, li150, li200, li255, li400, li500, li600, li999, li1000, li1001, li2000, li2001, li2002, li2003, li2004, li2005, li2006, li32767, li100000, li_neg, li13, li17, li21, li22, li28, li29, li33, li34, li35, li37, li38, li39, li46, li49, li50, li51, li52, li53, li63, li80, li115, li160]
      · simp (disch := omega) only [f_M_line, f_M_line_b, f_M_line_c, hm.1.2.l, z1, M_inT, w2, hm.b0, hm.b11, bI_s, bV_s, bL_s, bR_s, bG_s, bG_n, bX_l, bX_r, ck_nI, nI_clamp, nI_leT, nI_leF, nI_ltT, nI_ltF, nI_eqF, nI_add, pk_mul, ofN, bt_e, or0, Nat.zero_add, Nat.add_zero, ↓reduceIte, if_true, if_false, Bool.false_eq_true, eq_self, li0, li1, li2, li3, li4, li5, li6, li7, li8, li9, li10, li11, li12, li14, li15, li16, li18, li19, li20, li23, li24, li25, li26, li27, li30, li31, li32, li36, li40, li41, li42, li43, li44, li45, li47, li48, li57, li59, li60, li91, li93, li96, li97, li100, li105, li122, li150, li200, li255, li400, li500, li600, li999, li1000, li1001, li2000, li2001, li2002, li2003, li2004, li2005, li2006, li32767, li100000, li_neg, li13, li17, li21, li22, li28, li29, li33, li34, li35, li37, li38, li39, li46, li49, li50, li51, li52, li53, li63, li80, li115, li160]
  · refine agE0 h (by omega) rfl ?_ (nI 0) (fun M1 hm => ?_)
    · simp (disch := omega) only [f_C_line, hW.l, b1, f_C_mustExist, t5, bI_s, bV_s, bL_s, bR_s, bG_s, bG_n, bX_l, bX_r, ck_nI, nI_clamp, nI_leT, nI_leF, nI_ltT, nI_ltF, nI_eqF, nI_add, pk_mul, ofN, bt_e, or0, Nat.zero_add, Nat.add_zero, ↓reduceIte, if_true, if_false, Bool.false_eq_true, eq_self, li0, li1, li2, li3, li4, li5, li6, li7, li8, li9, li10, li11, li12, li14, li15, li16, li18, li19, li20, li23, li24, li25, li26, li27, li30, li31, li32, li36, li40, li41, li42, li43, li44, li45, li47, li48, li57, li59, li60, li91, li93, li96, li97, li100, li105, li122, li150, li200, li255, li400, li500, li600, li999, li1000, li1001, li2000, li2001, li2002, li2003, li2004, li2005, li2006, li32767, li100000, li_neg, li13, li17, li21, li22, li28, li29, li33, li34, li35, li37, li38, li39, li46, li49, li50, li51, li52, li53, li63, li80, li115, li160]
    · simp (disch := omega) only [f_M_line, f_M_line_b, hm.1.2.l, b2, hm.b10, bI_s, bV_s, bL_s, bR_s, bG_s, bG_n, bX_l, bX_r, ck_nI, nI_clamp, nI_leT, nI_leF, nI_ltT, nI_ltF, nI_eqF, nI_add, pk_mul, ofN, bt_e, or0, Nat.zero_add, Nat.add_zero, ↓reduceIte, if_true, if_false, Bool.false_eq_true, eq_self, li0, li1, li2, li3, li4, li5, li6, li7, li8, li9, li10, li11, li12, li14, li15, li16, li18, li19, li20, li23, li24, li25, li26, li27, li30, li31, li32, li36, li40, li41, li42, li43, li44, li45, li47, li48, li57, li59, li60, li91, li93, li96, li97, li100, li105, li122, li150, li200, li255, li400, li500, li600, li999, li1000, li1001, li2000, li2001, li2002, li2003, li2004, li2005, li2006, li32767, li100000, li_neg, li13, li17, li21, li22, li28, li29, li33, li34, li35, li37, li38, li39, li46, li49, li50, li51, li52, li53, li63, li80, li115, li160]
/-! in force -/
def lif (S : St) (mt n : Nat) : Nat × Int32 := fo n (fun i s => if S.2.1 2 i / 2 = mt ∧ ¬ fc S i ≤ s.2 then (i, fc S i) else s) (4294967295, nI 0)
theorem lif_s (S : St) (mt n : Nat) : lif S mt (n + 1) = if S.2.1 2 n / 2 = mt ∧ ¬ fc S n ≤ (lif S mt n).2 then (n, fc S n) else lif S mt n := rfl
theorem lif_in (S : St) (mt : Nat) : ∀ n : Nat, (lif S mt n).1 < n ∨ (lif S mt n).1 = 4294967295
  | 0 => Or.inr rfl
  | n + 1 => by
    rw [lif_s]
    split
    · exact Or.inl (by show n < n + 1; omega)
    · have := lif_in S mt n; omega
theorem C_lineInForce (hC : CI M o S) (hO : oS S) (hn : o + 561 ≤ nx M) {mt : Nat} (hm : mt < 5) : ∃ M', f_C_lineInForce o (nI mt) M = some (nI (lif S mt (S.2.1 0 2)).1, M') ∧ Fr (scr o) M M' := by
  have oW := hO.1.2.1
  have hLb := oW.l
  have key := lp_inv (R := Int32 × Mm) (fun u i (s : (Nat × Int32) × Mm) => f_C_lineInForce_b u o (nI mt) (nI s.1.1) s.1.2 (nI i) s.2) (S.2.1 0 2) (fun i s => s.1 = lif S mt i ∧ Fr (scr o) M s.2) (fun r => r.1 = nI (lif S mt (S.2.1 0 2)).1 ∧ Fr (scr o) M r.2) (fun u i s hi hI => ?_) (fun u s hI => ?_) 0 (by omega) ((4294967295, nI 0), M) ⟨rfl, Fr.rf _ _⟩ FU (FU_lt (by omega))
  · obtain ⟨⟨z, M'⟩, e, e1, e3⟩ := key
    exact ⟨M', by rw [← e1]; exact e, e3⟩
  · obtain ⟨s, N⟩ := s
    obtain ⟨e, f⟩ := hI
    dsimp only at e f ⊢
    have hC' := hC.scr f hn
    obtain ⟨p, l, d, hr, ⟨hP, hW⟩, _⟩ := id hC'
    have ha := oW.ac hi
    refine Or.inl ?_
    rw [lif_s, ← e]
    by_cases c1 : S.2.1 2 i / 2 = mt
    · obtain ⟨N', e2, f2⟩ := C_forceOf hC' hO (by rw [f.1.1]; exact hn) hi
      by_cases c2 : fc S i ≤ s.2
      · refine ⟨(s, N'), ?_, (if_neg (fun z => z.2 c2)).symm, f.trans f2⟩
        simp (disch := omega) only [f_C_lineInForce_b, hW.l, hW.ac hi, pk_div, c1, e2, c2, bI_s, bV_s, bL_s, bR_s, bG_s, bG_n, bX_l, bX_r, ck_nI, nI_clamp, nI_leT, nI_leF, nI_ltT, nI_ltF, nI_eqF, nI_add, pk_mul, ofN, bt_e, or0, Nat.zero_add, Nat.add_zero, ↓reduceIte, if_true, if_false, Bool.false_eq_true, eq_self, li0, li1, li2, li3, li4, li5, li6, li7, li8, li9, li10, li11, li12, li14, li15, li16, li18, li19, li20, li23, li24, li25, li26, li27, li30, li31, li32, li36, li40, li41, li42, li43, li44, li45, li47, li48, li57, li59, li60, li91, li93, li96, li97, li100, li105, li122, li150, li200, li255, li400, li500, li600, li999, li1000, li1001, li2000, li2001, li2002, li2003, li2004, li2005, li2006, li32767, li100000, li_neg, li13, li17, li21, li22, li28, li29, li33, li34, li35, li37, li38, li39, li46, li49, li50, li51, li52, li53, li63, li80, li115, li160]
      · refine ⟨((i, fc S i), N'), ?_, (if_pos ⟨c1, c2⟩).symm, f.trans f2⟩
        simp (disch := omega) only [f_C_lineInForce_b, hW.l, hW.ac hi, pk_div, c1, e2, c2, bI_s, bV_s, bL_s, bR_s, bG_s, bG_n, bX_l, bX_r, ck_nI, nI_clamp, nI_leT, nI_leF, nI_ltT, nI_ltF, nI_eqF, nI_add, pk_mul, ofN, bt_e, or0, Nat.zero_add, Nat.add_zero, ↓reduceIte, if_true, if_false, Bool.false_eq_true, eq_self, li0, li1, li2, li3, li4, li5, li6, li7, li8, li9, li10, li11, li12, li14, li15, li16, li18, li19, li20, li23, li24, li25, li26, li27, li30, li31, li32, li36, li40, li41, li42, li43, li44, li45, li47, li48, li57, li59, li60, li91, li93, li96, li97, li100, li105, li122, li150, li200, li255, li400, li500, li600, li999, li1000, li1001, li2000, li2001, li2002, li2003, li2004, li2005, li2006, li32767, li100000, li_neg, li13, li17, li21, li22, li28, li29, li33, li34, li35, li37, li38, li39, li46, li49, li50, li51, li52, li53, li63, li80, li115, li160]
    · refine ⟨(s, N), ?_, (if_neg (fun z => c1 z.1)).symm, f⟩
      simp (disch := omega) only [f_C_lineInForce_b, hW.l, hW.ac hi, pk_div, c1, bI_s, bV_s, bL_s, bR_s, bG_s, bG_n, bX_l, bX_r, ck_nI, nI_clamp, nI_leT, nI_leF, nI_ltT, nI_ltF, nI_eqF, nI_add, pk_mul, ofN, bt_e, or0, Nat.zero_add, Nat.add_zero, ↓reduceIte, if_true, if_false, Bool.false_eq_true, eq_self, li0, li1, li2, li3, li4, li5, li6, li7, li8, li9, li10, li11, li12, li14, li15, li16, li18, li19, li20, li23, li24, li25, li26, li27, li30, li31, li32, li36, li40, li41, li42, li43, li44, li45, li47, li48, li57, li59, li60, li91, li93, li96, li97, li100, li105, li122, li150, li200, li255, li400, li500, li600, li999, li1000, li1001, li2000, li2001, li2002, li2003, li2004, li2005, li2006, li32767, li100000, li_neg, li13, li17, li21, li22, li28, li29, li33, li34, li35, li37, li38, li39, li46, li49, li50, li51, li52, li53, li63, li80, li115, li160]
  · obtain ⟨s, N⟩ := s
    obtain ⟨e, f⟩ := hI
    dsimp only at e f ⊢
    obtain ⟨p, l, d, hr, ⟨hP, hW⟩, _⟩ := hC.scr f hn
    refine ⟨(nI s.1, N), ?_, by rw [e], f⟩
    simp (disch := omega) only [f_C_lineInForce_b, hW.l, bI_s, bV_s, bL_s, bR_s, bG_s, bG_n, bX_l, bX_r, ck_nI, nI_clamp, nI_leT, nI_leF, nI_ltT, nI_ltF, nI_eqF, nI_add, pk_mul, ofN, bt_e, or0, Nat.zero_add, Nat.add_zero, ↓reduceIte, if_true, if_false, Bool.false_eq_true, eq_self, li0, li1, li2, li3, li4, li5, li6, li7, li8, li9, li10, li11, li12, li14, li15, li16, li18, li19, li20, li23, li24, li25, li26, li27, li30, li31, li32, li36, li40, li41, li42, li43, li44, li45, li47, li48, li57, li59, li60, li91, li93, li96, li97, li100, li105, li122, li150, li200, li255, li400, li500, li600, li999, li1000, li1001, li2000, li2001, li2002, li2003, li2004, li2005, li2006, li32767, li100000, li_neg, li13, li17, li21, li22, li28, li29, li33, li34, li35, li37, li38, li39, li46, li49, li50, li51, li52, li53, li63, li80, li115, li160]
theorem M_ruling (hm : MJ N m S) (hO : oS S) {mt : Nat} (hmt : mt < 5) : ∃ N', f_M_ruling m (nI mt) N = some (nI (lif S mt (S.2.1 0 2)).1, N') ∧ Fr (ks m) N N' := by
  have oW := hO.1.2.1
  have hLb := oW.l
  have key := lp_inv (R := Int32 × Mm) (fun u i (s : (Nat × Int32) × Mm) => f_M_ruling_b u m (nI mt) (nI s.1.1) s.1.2 (nI i) s.2) (S.2.1 0 2) (fun i s => s.1 = lif S mt i ∧ Fr (ks m) N s.2) (fun r => r.1 = nI (lif S mt (S.2.1 0 2)).1 ∧ Fr (ks m) N r.2) (fun u i s hi hI => ?_) (fun u s hI => ?_) 0 (by omega) ((4294967295, nI 0), N) ⟨rfl, Fr.rf _ _⟩ FU (FU_lt (by omega))
  · obtain ⟨⟨z, M'⟩, e, e1, e3⟩ := key
    exact ⟨M', by rw [← e1]; exact e, e3⟩
  · obtain ⟨s, N1⟩ := s
    obtain ⟨e, f⟩ := hI
    dsimp only at e f ⊢
    have hm' := hm.ksm hO f
    have ha := oW.ac hi
    refine Or.inl ?_
    rw [lif_s, ← e]
    by_cases c1 : S.2.1 2 i / 2 = mt
    · obtain ⟨N', e2, f2⟩ := M_forceOf hm' hO hi
      by_cases c2 : fc S i ≤ s.2
      · have c3 : (s.2 < fc S i) = False := eq_false (Int32.not_lt.mpr c2)
        refine ⟨(s, N'), ?_, (if_neg (fun z => z.2 c2)).symm, f.trans f2⟩
        simp (disch := omega) only [f_M_ruling_b, hm'.1.2.l, (M_lineOf hm'.1.2 oW hi).1.2, pk_div, c1, e2, c3, bI_s, bV_s, bL_s, bR_s, bG_s, bG_n, bX_l, bX_r, ck_nI, nI_clamp, nI_leT, nI_leF, nI_ltT, nI_ltF, nI_eqF, nI_add, pk_mul, ofN, bt_e, or0, Nat.zero_add, Nat.add_zero, ↓reduceIte, if_true, if_false, Bool.false_eq_true, eq_self, li0, li1, li2, li3, li4, li5, li6, li7, li8, li9, li10, li11, li12, li14, li15, li16, li18, li19, li20, li23, li24, li25, li26, li27, li30, li31, li32, li36, li40, li41, li42, li43, li44, li45, li47, li48, li57, li59, li60, li91, li93, li96, li97, li100, li105, li122, li150, li200, li255, li400, li500, li600, li999, li1000, li1001, li2000, li2001, li2002, li2003, li2004, li2005, li2006, li32767, li100000, li_neg, li13, li17, li21, li22, li28, li29, li33, li34, li35, li37, li38, li39, li46, li49, li50, li51, li52, li53, li63, li80, li115, li160]
      · have c3 : s.2 < fc S i := Int32.not_le.mp c2
        refine ⟨((i, fc S i), N'), ?_, (if_pos ⟨c1, c2⟩).symm, f.trans f2⟩
        simp (disch := omega) only [f_M_ruling_b, hm'.1.2.l, (M_lineOf hm'.1.2 oW hi).1.2, pk_div, c1, e2, c3, bI_s, bV_s, bL_s, bR_s, bG_s, bG_n, bX_l, bX_r, ck_nI, nI_clamp, nI_leT, nI_leF, nI_ltT, nI_ltF, nI_eqF, nI_add, pk_mul, ofN, bt_e, or0, Nat.zero_add, Nat.add_zero, ↓reduceIte, if_true, if_false, Bool.false_eq_true, eq_self, li0, li1, li2, li3, li4, li5, li6, li7, li8, li9, li10, li11, li12, li14, li15, li16, li18, li19, li20, li23, li24, li25, li26, li27, li30, li31, li32, li36, li40, li41, li42, li43, li44, li45, li47, li48, li57, li59, li60, li91, li93, li96, li97, li100, li105, li122, li150, li200, li255, li400, li500, li600, li999, li1000, li1001, li2000, li2001, li2002, li2003, li2004, li2005, li2006, li32767, li100000, li_neg, li13, li17, li21, li22, li28, li29, li33, li34, li35, li37, li38, li39, li46, li49, li50, li51, li52, li53, li63, li80, li115, li160]
    · refine ⟨(s, N1), ?_, (if_neg (fun z => c1 z.1)).symm, f⟩
      simp (disch := omega) only [f_M_ruling_b, hm'.1.2.l, (M_lineOf hm'.1.2 oW hi).1.2, pk_div, c1, bI_s, bV_s, bL_s, bR_s, bG_s, bG_n, bX_l, bX_r, ck_nI, nI_clamp, nI_leT, nI_leF, nI_ltT, nI_ltF, nI_eqF, nI_add, pk_mul, ofN, bt_e, or0, Nat.zero_add, Nat.add_zero, ↓reduceIte, if_true, if_false, Bool.false_eq_true, eq_self, li0, li1, li2, li3, li4, li5, li6, li7, li8, li9, li10, li11, li12, li14, li15, li16, li18, li19, li20, li23, li24, li25, li26, li27, li30, li31, li32, li36, li40, li41, li42, li43, li44, li45, li47, li48, li57, li59, li60, li91, li93, li96, li97, li100, li105, li122, li150, li200, li255, li400, li500, li600, li999, li1000, li1001, li2000, li2001, li2002, li2003, li2004, li2005, li2006, li32767, li100000, li_neg, li13, li17, li21, li22, li28, li29, li33, li34, li35, li37, li38, li39, li46, li49, li50, li51, li52, li53, li63, li80, li115, li160]
  · obtain ⟨s, N1⟩ := s
    obtain ⟨e, f⟩ := hI
    dsimp only at e f ⊢
    have hm' := hm.ksm hO f
    refine ⟨(nI s.1, N1), ?_, by rw [e], f⟩
    simp (disch := omega) only [f_M_ruling_b, hm'.1.2.l, bI_s, bV_s, bL_s, bR_s, bG_s, bG_n, bX_l, bX_r, ck_nI, nI_clamp, nI_leT, nI_leF, nI_ltT, nI_ltF, nI_eqF, nI_add, pk_mul, ofN, bt_e, or0, Nat.zero_add, Nat.add_zero, ↓reduceIte, if_true, if_false, Bool.false_eq_true, eq_self, li0, li1, li2, li3, li4, li5, li6, li7, li8, li9, li10, li11, li12, li14, li15, li16, li18, li19, li20, li23, li24, li25, li26, li27, li30, li31, li32, li36, li40, li41, li42, li43, li44, li45, li47, li48, li57, li59, li60, li91, li93, li96, li97, li100, li105, li122, li150, li200, li255, li400, li500, li600, li999, li1000, li1001, li2000, li2001, li2002, li2003, li2004, li2005, li2006, li32767, li100000, li_neg, li13, li17, li21, li22, li28, li29, li33, li34, li35, li37, li38, li39, li46, li49, li50, li51, li52, li53, li63, li80, li115, li160]
end
