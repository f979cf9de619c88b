/-! # functional level, 34: fits, fitted agree -/
section
variable {M M' M1 N N' : Mm} {o m f p : Nat} {P : TT} {S : St}
theorem lz_sm {v : Nat → Nat} : ∀ (d b : Nat), sm b v + lz v d b = sm (b + d) v := by
  intro d
  induction d with
  | zero => intro b; rfl
  | succ d ih =>
    intro b
    have := ih (b + 1)
    have e1 : lz v (d + 1) b = v b + lz v d (b + 1) := rfl
    have e2 : sm (b + 1) v = sm b v + v b := rfl
    rw [show b + (d + 1) = b + 1 + d by omega]
    omega
theorem lz_le {g : Int32} (oP : okP P) : ∀ (d b : Nat), b + d ≤ P 0 2 → lz (vz P g) d b ≤ 15 * d := by
  intro d
  induction d with
  | zero => intro b _; exact Nat.zero_le _
  | succ d ih =>
    intro b h
    have e1 : lz (vz P g) (d + 1) b = vz P g b + lz (vz P g) d (b + 1) := rfl
    have i := ih (b + 1) (by omega)
    have l := oP.len (show b < P 0 2 by omega)
    have : vz P g b ≤ 15 := by unfold vz; split <;> omega
    omega
def frS (P : TT) (g : Int32) : ST := fu (vz P g) (P 0 0) (P 0 2) 0 (P 1) 0 (fun _ => nI 0) (0, fun _ => nI 0)
theorem frS_ne (P : TT) (g : Int32) : (frS P g).1 ≠ 0 := by
  have := (fu_ge (v := vz P g) (R := P 0 0) (P 0 2) 0 (P 1) 0 (fun _ => nI 0) (0, fun _ => nI 0)).2
  unfold frS; omega
def wdX (P : TT) (i : Nat) : Nat := mz (P 1) (fun _ => true) i
theorem wdX_s (P : TT) (i : Nat) : wdX P (i + 1) = max (wdX P i) (P 1 i) := by
  rw [Nat.max_comm]; rfl
theorem wdX_le (oP : okP P) : ∀ i, i ≤ P 0 0 → wdX P i ≤ 30 := by
  intro i h
  exact mz_le (fun k hk _ => (oP.wide (by omega)).2)
def cB (P : TT) (g : Int32) (x k : Nat) : Bool := hs g k && decide (P 3 k ≤ x)
def gk (P : TT) (g : Int32) (x i : Nat) : Int32 := fo i (fun k s => if cB P g x k = true then s ||| bt ((fun k => k) k) else s) (nI 0)
theorem gk_s (P : TT) (g : Int32) (x i : Nat) : gk P g x (i + 1) = if cB P g x i = true then gk P g x i ||| bt i else gk P g x i := rfl
theorem gk_h {g : Int32} {x k n : Nat} (hn : n ≤ 8) (hk : k < n) : hs (gk P g x n) k = cB P g x k := by
  have h := hs_fo (c := cB P g x) (g := fun k => k) (k := k) (by omega) n (fun i hi => by show i < 32; omega)
  rw [Bool.eq_iff_iff]
  refine h.trans ⟨?_, fun q => ⟨k, hk, q, rfl⟩⟩
  rintro ⟨i, _, hc, rfl⟩
  exact hc
theorem vz_gk {g : Int32} {x k n : Nat} (hn : n ≤ 8) (hk : k < n) : vz P (gk P g x n) k = if cB P g x k = true then P 3 k else 0 := by
  unfold vz; rw [gk_h hn hk]
theorem vz_cg {g : Int32} {x k n : Nat} (hn : n ≤ 8) (hk : k < n) : vz P (gk P g x n) k = if vz P g k ≤ x then vz P g k else 0 := by
  rw [vz_gk hn hk]
  unfold vz cB
  by_cases c : hs g k = true
  · rw [if_pos c, c]
    by_cases c2 : P 3 k ≤ x
    · rw [if_pos c2, if_pos (by rw [decide_eq_true c2]; rfl)]
    · rw [if_neg c2, if_neg (by rw [decide_eq_false c2]; decide)]
  · rw [if_neg c, Bool.eq_false_iff.mpr c, if_neg (by rw [Bool.false_and]; decide), if_pos (by omega)]
theorem C_search {g : Int32} (oP : okP P) (hP : isP M p P) (hp : p + 8 ≤ f ∨ f + 4 ≤ p) : ∃ M', f_Fitting_search f p g M = some M' ∧ Fr (rg f 4) M M' ∧ gI M' f 5 = em (frS P g).1 ∧ ∀ i, i < P 0 2 → gI M' (f + 3) i = (frS P g).2 i := by
  have hRb := oP.r
  have hBb := oP.b
  have hfr : ∀ {N : Mm}, Fr (rg f 4) M N → isP N p P := fun q => hP.fr q (fun x h1 h2 => by unfold rg; omega)
  have hx := wdX_le oP (P 0 0) (by omega)
  have hc : ∀ N : Mm, (Fr (rg f 4) M N ∧ gR N f 3 = some p ∧ gI N f 4 = nI 0 ∧ gI N f 5 = nI 4294967295 ∧ ∀ r, r < P 0 0 → gI N (f + 1) r = nI (P 1 r)) → ∃ r, f_Fitting_search_c FU f p g (nI (wdX P (P 0 0))) (nI 0) (nI 0) N = some r ∧ (Fr (rg f 4) M r ∧ gI r f 5 = em (frS P g).1 ∧ ∀ i, i < P 0 2 → gI r (f + 3) i = (frS P g).2 i) := by
    intro N hN
    generalize hX : wdX P (P 0 0) = x at hx
    have hw : ∀ r, r < P 0 0 → P 1 r ≤ x := fun r hr => by rw [← hX]; exact mz_ge (f := P 1) hr rfl
    refine lp_inv (fun w i (s : Nat × Mm) => f_Fitting_search_c w f p g (nI x) (nI s.1) (nI i) s.2) (P 0 2) (fun i s => s.1 = sm i (fun k => if cB P g x k = true then P 3 k else 0) ∧ Fr (rg f 4) M s.2 ∧ gR s.2 f 3 = some p ∧ gI s.2 f 4 = gk P g x i ∧ gI s.2 f 5 = nI 4294967295 ∧ ∀ r, r < P 0 0 → gI s.2 (f + 1) r = nI (P 1 r)) (fun r => Fr (rg f 4) M r ∧ gI r f 5 = em (frS P g).1 ∧ ∀ i, i < P 0 2 → gI r (f + 3) i = (frS P g).2 i) ?_ ?_ 0 (by omega) (0, N) ⟨rfl, hN⟩ FU (FU_lt (by omega))
    · rintro w i ⟨y, N⟩ hi ⟨h1, h2, h3, h4, h5, h6⟩
      have h1 : y = _ := h1
      have hPb := (hfr h2).b
      have hPl := (hfr h2).len hi
      have l := oP.len hi
      left
      have hs1 : sm (i + 1) (fun k => if cB P g x k = true then P 3 k else 0) = sm i (fun k => if cB P g x k = true then P 3 k else 0) + (if cB P g x i = true then P 3 i else 0) := rfl
      by_cases c1 : hs g i = true
      · by_cases c2 : P 3 i ≤ x
        · have cb : cB P g x i = true := by unfold cB; rw [c1, decide_eq_true c2]; rfl
          rw [if_pos cb] at hs1
          have e9 : gI (sI N f 4 (gk P g x i ||| bt i)) (p + 3) i = nI (P 3 i) := by rw [gI_ne (Or.inl (by omega))]; exact hPl
          refine ⟨(y + P 3 i, sI N f 4 (gk P g x i ||| bt i)), ?_, by rw [hs1, h1], h2.sI (by unfold rg; omega), h3, ?_, ?_, fun r hr => ?_⟩
          · simp (disch := omega) only [f_Fitting_search_c, hPb, hPl, h4, C_hasT c1, e9, bI_s, bV_s, bL_s, bR_s, bG_s, bG_n, bX_l, bX_r, ck_nI, nI_clamp, nI_leT, nI_leF, nI_ltT, nI_ltF, nI_eqF, nI_add, pk_mul, ofN, bt_e, or0, Nat.zero_add, Nat.add_zero, ↓reduceIte, if_true, if_false, Bool.false_eq_true, eq_self, li0, li1, li2, li3, li4, li5, li6, li7, li8, li9, li10, li11, li12, li14, li15, li16, li18, li19, li20, li23, li24, li25, li26, li27, li30, li31, li32, li36, li40, li41, li42, li43, li44, li45, li47, li48, li57, li59, li60, li91, li93, li96, li97, li100, li105, li122, li150, li200, li255, li400, li500, li600, li999, li1000, li1001, li2000, li2001, li2002, li2003, li2004, li2005, li2006, li32767, li100000, li_neg, li13, li17, li21, li22, li28, li29, li33, li34, li35, li37, li38, li39, li46, li49, li50, li51, li52, li53, li63, li80, li115, li160]
          · show gI (sI N f 4 _) f 4 = _
            rw [gI_same, gk_s, if_pos cb]
          · show gI (sI N f 4 _) f 5 = _
            rw [gI_ne (Or.inr (by omega))]; exact h5
          · show gI (sI N f 4 _) (f + 1) r = _
            rw [gI_ne (Or.inl (by omega))]; exact h6 r hr
        · have cb : ¬ cB P g x i = true := by unfold cB; rw [c1, decide_eq_false c2]; decide
          rw [if_neg cb] at hs1
          refine ⟨(y, N), ?_, by rw [hs1]; exact h1, h2, h3, by rw [gk_s, if_neg cb]; exact h4, h5, h6⟩
          simp (disch := omega) only [f_Fitting_search_c, hPb, hPl, C_hasT c1, bI_s, bV_s, bL_s, bR_s, bG_s, bG_n, bX_l, bX_r, ck_nI, nI_clamp, nI_leT, nI_leF, nI_ltT, nI_ltF, nI_eqF, nI_add, pk_mul, ofN, bt_e, or0, Nat.zero_add, Nat.add_zero, ↓reduceIte, if_true, if_false, Bool.false_eq_true, eq_self, li0, li1, li2, li3, li4, li5, li6, li7, li8, li9, li10, li11, li12, li14, li15, li16, li18, li19, li20, li23, li24, li25, li26, li27, li30, li31, li32, li36, li40, li41, li42, li43, li44, li45, li47, li48, li57, li59, li60, li91, li93, li96, li97, li100, li105, li122, li150, li200, li255, li400, li500, li600, li999, li1000, li1001, li2000, li2001, li2002, li2003, li2004, li2005, li2006, li32767, li100000, li_neg, li13, li17, li21, li22, li28, li29, li33, li34, li35, li37, li38, li39, li46, li49, li50, li51, li52, li53, li63, li80, li115, li160]
      · have cb : ¬ cB P g x i = true := by unfold cB; rw [Bool.eq_false_iff.mpr c1, Bool.false_and]; decide
        rw [if_neg cb] at hs1
        refine ⟨(y, N), ?_, by rw [hs1]; exact h1, h2, h3, by rw [gk_s, if_neg cb]; exact h4, h5, h6⟩
        simp (disch := omega) only [f_Fitting_search_c, hPb, hPl, C_hasF c1, bI_s, bV_s, bL_s, bR_s, bG_s, bG_n, bX_l, bX_r, ck_nI, nI_clamp, nI_leT, nI_leF, nI_ltT, nI_ltF, nI_eqF, nI_add, pk_mul, ofN, bt_e, or0, Nat.zero_add, Nat.add_zero, ↓reduceIte, if_true, if_false, Bool.false_eq_true, eq_self, li0, li1, li2, li3, li4, li5, li6, li7, li8, li9, li10, li11, li12, li14, li15, li16, li18, li19, li20, li23, li24, li25, li26, li27, li30, li31, li32, li36, li40, li41, li42, li43, li44, li45, li47, li48, li57, li59, li60, li91, li93, li96, li97, li100, li105, li122, li150, li200, li255, li400, li500, li600, li999, li1000, li1001, li2000, li2001, li2002, li2003, li2004, li2005, li2006, li32767, li100000, li_neg, li13, li17, li21, li22, li28, li29, li33, li34, li35, li37, li38, li39, li46, li49, li50, li51, li52, li53, li63, li80, li115, li160]
    · rintro w ⟨y, N⟩ ⟨h1, h2, h3, h4, h5, h6⟩
      have h1 : y = _ := h1
      have hPb := (hfr h2).b
      have ey : y = lz (vz P (gk P g x (P 0 2))) (P 0 2) 0 := by
        have e := lz_sm (v := vz P (gk P g x (P 0 2))) (P 0 2) 0
        rw [Nat.zero_add] at e
        have e0 : sm 0 (vz P (gk P g x (P 0 2))) = 0 := rfl
        rw [h1, sm_congr (g := vz P (gk P g x (P 0 2))) (P 0 2) (fun k hk => (vz_gk hBb hk).symm)]
        omega
      have hl := lz_le (g := gk P g x (P 0 2)) oP (P 0 2) 0 (by omega)
      obtain ⟨M', e, r1, r2, r3, r4⟩ := C_place (g := gk P g x (P 0 2)) oP hp (P 0 2) 0 (P 1) 0 (fun _ => nI 0) (0, fun _ => nI 0) N 10 (by omega) (by omega) (by omega) (fun r hr => (oP.wide hr).2) (by show 0 ≤ 1001; omega) (hfr h2) ⟨h3, h4, h6⟩ (fun i h => by omega) ⟨h5, fun h => absurd rfl h⟩
      have er : fu (vz P (gk P g x (P 0 2))) (P 0 0) (P 0 2) 0 (P 1) 0 (fun _ => nI 0) (0, fun _ => nI 0) = frS P g := fu_cg (n := P 0 2) (x := x) (fun b hb => vz_cg hBb hb) (P 0 2) 0 (P 1) 0 _ _ (by omega) hw
      rw [er] at r4
      refine ⟨M', ?_, h2.trans r1, r4.1, r4.2 (frS_ne P g)⟩
      rw [← ey] at e
      simp (disch := omega) only [f_Fitting_search_c, hPb, e, bI_s, bV_s, bL_s, bR_s, bG_s, bG_n, bX_l, bX_r, ck_nI, nI_clamp, nI_leT, nI_leF, nI_ltT, nI_ltF, nI_eqF, nI_add, pk_mul, ofN, bt_e, or0, Nat.zero_add, Nat.add_zero, ↓reduceIte, if_true, if_false, Bool.false_eq_true, eq_self, li0, li1, li2, li3, li4, li5, li6, li7, li8, li9, li10, li11, li12, li14, li15, li16, li18, li19, li20, li23, li24, li25, li26, li27, li30, li31, li32, li36, li40, li41, li42, li43, li44, li45, li47, li48, li57, li59, li60, li91, li93, li96, li97, li100, li105, li122, li150, li200, li255, li400, li500, li600, li999, li1000, li1001, li2000, li2001, li2002, li2003, li2004, li2005, li2006, li32767, li100000, li_neg, li13, li17, li21, li22, li28, li29, li33, li34, li35, li37, li38, li39, li46, li49, li50, li51, li52, li53, li63, li80, li115, li160]
  refine lp_inv (fun w i (s : Nat × Mm) => f_Fitting_search_b w f p g (nI s.1) (nI i) s.2) (P 0 0) (fun i s => s.1 = wdX P i ∧ Fr (rg f 4) M s.2 ∧ gR s.2 f 3 = some p ∧ gI s.2 f 4 = nI 0 ∧ gI s.2 f 5 = nI 4294967295 ∧ ∀ r, r < i → gI s.2 (f + 1) r = nI (P 1 r)) (fun r => Fr (rg f 4) M r ∧ gI r f 5 = em (frS P g).1 ∧ ∀ i, i < P 0 2 → gI r (f + 3) i = (frS P g).2 i) ?_ ?_ 0 (by omega) (0, sI (sI (sR M f 3 (some p)) f 4 (nI 0)) f 5 (nI 4294967295)) ⟨rfl, (((Fr.rf _ M).sR (by unfold rg; omega)).sI (by unfold rg; omega)).sI (by unfold rg; omega), gR_same .., ?_, gI_same .., fun r hr => by omega⟩ FU (FU_lt (by omega))
  · rintro w i ⟨y, N⟩ hi ⟨h1, h2, h3, h4, h5, h6⟩
    have h1 : y = _ := h1
    have hPb := (hfr h2).r
    have hPl := (hfr h2).wide hi
    have l := oP.wide hi
    have l2 := wdX_le oP i (by omega)
    left
    refine ⟨(max y (P 1 i), sI N (f + 1) i (nI (P 1 i))), ?_, by rw [wdX_s, h1], h2.sI (by unfold rg; omega), h3, ?_, ?_, fun r hr => ?_⟩
    · simp (disch := omega) only [f_Fitting_search_b, hPb, hPl, mxI_n, bI_s, bV_s, bL_s, bR_s, bG_s, bG_n, bX_l, bX_r, ck_nI, nI_clamp, nI_leT, nI_leF, nI_ltT, nI_ltF, nI_eqF, nI_add, pk_mul, ofN, bt_e, or0, Nat.zero_add, Nat.add_zero, ↓reduceIte, if_true, if_false, Bool.false_eq_true, eq_self, li0, li1, li2, li3, li4, li5, li6, li7, li8, li9, li10, li11, li12, li14, li15, li16, li18, li19, li20, li23, li24, li25, li26, li27, li30, li31, li32, li36, li40, li41, li42, li43, li44, li45, li47, li48, li57, li59, li60, li91, li93, li96, li97, li100, li105, li122, li150, li200, li255, li400, li500, li600, li999, li1000, li1001, li2000, li2001, li2002, li2003, li2004, li2005, li2006, li32767, li100000, li_neg, li13, li17, li21, li22, li28, li29, li33, li34, li35, li37, li38, li39, li46, li49, li50, li51, li52, li53, li63, li80, li115, li160, gI_same, gI_ne, gI_eq2, gR_sI, gL_sI, gI_sL, gR_sL, gI_sR, gL_sR]
    · show gI (sI N (f + 1) i _) f 4 = _
      rw [gI_ne (Or.inl (by omega))]; exact h4
    · show gI (sI N (f + 1) i _) f 5 = _
      rw [gI_ne (Or.inl (by omega))]; exact h5
    · show gI (sI N (f + 1) i _) (f + 1) r = _
      by_cases q : r = i
      · rw [q, gI_same]
      · rw [gI_ne (Or.inr q)]; exact h6 r (by omega)
  · rintro w ⟨y, N⟩ ⟨h1, h2, h3, h4, h5, h6⟩
    have h1 : y = _ := h1
    have hPb := (hfr h2).r
    obtain ⟨r, e, hr⟩ := hc N ⟨h2, h3, h4, h5, h6⟩
    refine ⟨r, ?_, hr⟩
    subst h1
    simp (disch := omega) only [f_Fitting_search_b, hPb, e, bI_s, bV_s, bL_s, bR_s, bG_s, bG_n, bX_l, bX_r, ck_nI, nI_clamp, nI_leT, nI_leF, nI_ltT, nI_ltF, nI_eqF, nI_add, pk_mul, ofN, bt_e, or0, Nat.zero_add, Nat.add_zero, ↓reduceIte, if_true, if_false, Bool.false_eq_true, eq_self, li0, li1, li2, li3, li4, li5, li6, li7, li8, li9, li10, li11, li12, li14, li15, li16, li18, li19, li20, li23, li24, li25, li26, li27, li30, li31, li32, li36, li40, li41, li42, li43, li44, li45, li47, li48, li57, li59, li60, li91, li93, li96, li97, li100, li105, li122, li150, li200, li255, li400, li500, li600, li999, li1000, li1001, li2000, li2001, li2002, li2003, li2004, li2005, li2006, li32767, li100000, li_neg, li13, li17, li21, li22, li28, li29, li33, li34, li35, li37, li38, li39, li46, li49, li50, li51, li52, li53, li63, li80, li115, li160]
  · show gI (sI (sI _ f 4 _) f 5 _) f 4 = _
    rw [gI_ne (Or.inr (by omega)), gI_same]
theorem em_n : ∀ n, n < 9 → nI n - nI 1 = em n := by decide
theorem M_lays {g : Int32} (oP : okP P) (hQ : isQ N m P) : ∃ N', f_M_laysFits m g N = some N' ∧ FW m N N' ∧ gI N' m 48 = em (frS P g).1 ∧ ∀ i, i < P 0 2 → gI N' (m + 494) i = (frS P g).2 i := by
  have hRb := oP.r
  have hBb := oP.b
  have hF : QF N m P := ⟨hQ.r, hQ.b, fun k hk => hQ.len hk⟩
  have hw : ∀ {N1 : Mm}, FW m N N1 → ∀ k, k < P 0 0 → gI N1 (m + 6) k = nI (P 1 k) := fun q k hk => by rw [q.2.1 _ _ (by unfold wR; omega)]; exact hQ.wide hk
  have hl := lz_le (g := g) oP (P 0 2) 0 (by omega)
  have hc : ∀ N1 : Mm, (FW m N N1 ∧ gI N1 m 48 = nI 4294967295 ∧ ∀ k, k ≤ P 0 2 → gI N1 (m + 496) k = nI (lz (vz P g) (P 0 2 - k) k)) → ∃ r, f_M_laysFits_c FU m g (nI 0) N1 = some r ∧ (FW m N r ∧ gI r m 48 = em (frS P g).1 ∧ ∀ i, i < P 0 2 → gI r (m + 494) i = (frS P g).2 i) := by
    intro N1 hN
    refine lp_inv (fun w i (s : Mm) => f_M_laysFits_c w m g (nI i) s) (P 0 0) (fun i s => FW m N s ∧ gI s m 48 = nI 4294967295 ∧ (∀ k, k ≤ P 0 2 → gI s (m + 496) k = nI (lz (vz P g) (P 0 2 - k) k)) ∧ ∀ r, r < i → gI s (m + 495) r = nI (P 1 r)) (fun r => FW m N r ∧ gI r m 48 = em (frS P g).1 ∧ ∀ i, i < P 0 2 → gI r (m + 494) i = (frS P g).2 i) ?_ ?_ 0 (by omega) N1 ⟨hN.1, hN.2.1, hN.2.2, fun r h => by omega⟩ FU (FU_lt (by omega))
    · rintro w i N2 hi ⟨h1, h2, h3, h4⟩
      have hPr := (hF.fw oP h1).1
      have hPw := hw h1 i hi
      left
      refine ⟨sI N2 (m + 495) i (nI (P 1 i)), ?_, h1.sI (by unfold wR; omega), by rw [gI_ne (Or.inl (by omega))]; exact h2, fun k h => by rw [gI_ne (Or.inl (by omega))]; exact h3 k h, fun r hr => ?_⟩
      · simp (disch := omega) only [f_M_laysFits_c, hPr, hPw, bI_s, bV_s, bL_s, bR_s, bG_s, bG_n, bX_l, bX_r, ck_nI, nI_clamp, nI_leT, nI_leF, nI_ltT, nI_ltF, nI_eqF, nI_add, pk_mul, ofN, bt_e, or0, Nat.zero_add, Nat.add_zero, ↓reduceIte, if_true, if_false, Bool.false_eq_true, eq_self, li0, li1, li2, li3, li4, li5, li6, li7, li8, li9, li10, li11, li12, li14, li15, li16, li18, li19, li20, li23, li24, li25, li26, li27, li30, li31, li32, li36, li40, li41, li42, li43, li44, li45, li47, li48, li57, li59, li60, li91, li93, li96, li97, li100, li105, li122, li150, li200, li255, li400, li500, li600, li999, li1000, li1001, li2000, li2001, li2002, li2003, li2004, li2005, li2006, li32767, li100000, li_neg, li13, li17, li21, li22, li28, li29, li33, li34, li35, li37, li38, li39, li46, li49, li50, li51, li52, li53, li63, li80, li115, li160]
      · by_cases q : r = i
        · rw [q, gI_same]
        · rw [gI_ne (Or.inr q)]; exact h4 r (by omega)
    · rintro w N2 ⟨h1, h2, h3, h4⟩
      have hPr := (hF.fw oP h1).1
      obtain ⟨M', e, r1, r2, r3, r4⟩ := M_place (m := m) (g := g) oP (P 0 2) 0 (P 1) 0 (fun _ => nI 0) (0, fun _ => nI 0) N2 10 (by omega) (by omega) (by omega) (fun r hr => (oP.wide hr).2) (by show 0 ≤ 1001; omega) (hF.fw oP h1) ⟨h4, h3⟩ (fun i h => by omega) ⟨h2, fun h => absurd rfl h⟩
      refine ⟨M', ?_, h1.trans r1, r4.1, r4.2 (frS_ne P g)⟩
      simp (disch := omega) only [f_M_laysFits_c, hPr, e, bI_s, bV_s, bL_s, bR_s, bG_s, bG_n, bX_l, bX_r, ck_nI, nI_clamp, nI_leT, nI_leF, nI_ltT, nI_ltF, nI_eqF, nI_add, pk_mul, ofN, bt_e, or0, Nat.zero_add, Nat.add_zero, ↓reduceIte, if_true, if_false, Bool.false_eq_true, eq_self, li0, li1, li2, li3, li4, li5, li6, li7, li8, li9, li10, li11, li12, li14, li15, li16, li18, li19, li20, li23, li24, li25, li26, li27, li30, li31, li32, li36, li40, li41, li42, li43, li44, li45, li47, li48, li57, li59, li60, li91, li93, li96, li97, li100, li105, li122, li150, li200, li255, li400, li500, li600, li999, li1000, li1001, li2000, li2001, li2002, li2003, li2004, li2005, li2006, li32767, li100000, li_neg, li13, li17, li21, li22, li28, li29, li33, li34, li35, li37, li38, li39, li46, li49, li50, li51, li52, li53, li63, li80, li115, li160]
  have down : ∀ k u N1, k ≤ P 0 2 → k < u → (FW m N N1 ∧ gI N1 m 48 = nI 4294967295 ∧ ∀ j, k ≤ j → j ≤ P 0 2 → gI N1 (m + 496) j = nI (lz (vz P g) (P 0 2 - j) j)) → ∃ r, f_M_laysFits_b u m g (em k) N1 = some r ∧ (FW m N r ∧ gI r m 48 = em (frS P g).1 ∧ ∀ i, i < P 0 2 → gI r (m + 494) i = (frS P g).2 i) := by
    intro k
    induction k with
    | zero =>
      intro u N1 hk hu h
      obtain ⟨u, rfl⟩ : ∃ v, u = v + 1 := ⟨u - 1, by omega⟩
      obtain ⟨r, e, hr⟩ := hc N1 ⟨h.1, h.2.1, fun j => h.2.2 j (by omega)⟩
      refine ⟨r, ?_, hr⟩
      have z : (em 0 < nI 0) = True := eq_true (by decide)
      simp (disch := omega) only [f_M_laysFits_b, z, e, bI_s, bV_s, bL_s, bR_s, bG_s, bG_n, bX_l, bX_r, ck_nI, nI_clamp, nI_leT, nI_leF, nI_ltT, nI_ltF, nI_eqF, nI_add, pk_mul, ofN, bt_e, or0, Nat.zero_add, Nat.add_zero, ↓reduceIte, if_true, if_false, Bool.false_eq_true, eq_self, li0, li1, li2, li3, li4, li5, li6, li7, li8, li9, li10, li11, li12, li14, li15, li16, li18, li19, li20, li23, li24, li25, li26, li27, li30, li31, li32, li36, li40, li41, li42, li43, li44, li45, li47, li48, li57, li59, li60, li91, li93, li96, li97, li100, li105, li122, li150, li200, li255, li400, li500, li600, li999, li1000, li1001, li2000, li2001, li2002, li2003, li2004, li2005, li2006, li32767, li100000, li_neg, li13, li17, li21, li22, li28, li29, li33, li34, li35, li37, li38, li39, li46, li49, li50, li51, li52, li53, li63, li80, li115, li160]
    | succ k ih =>
      intro u N1 hk hu h
      obtain ⟨u, rfl⟩ : ∃ v, u = v + 1 := ⟨u - 1, by omega⟩
      have h3 := h.2.2 (k + 1) (by omega) hk
      have hPl := (hF.fw oP h.1).2.2 k (by omega)
      have hlz : lz (vz P g) (P 0 2 - k) k = vz P g k + lz (vz P g) (P 0 2 - (k + 1)) (k + 1) := by
        rw [show P 0 2 - k = P 0 2 - (k + 1) + 1 by omega]; rfl
      have hl2 := lz_le (g := g) oP (P 0 2 - (k + 1)) (k + 1) (by omega)
      have key := ih u (sI N1 (m + 496) k (nI (lz (vz P g) (P 0 2 - (k + 1)) (k + 1) + vz P g k))) (by omega) (by omega) ⟨h.1.sI (by unfold wR; omega), by rw [gI_ne (Or.inl (by omega))]; exact h.2.1, fun j h1 h2 => ?_⟩
      · obtain ⟨r, e, hr⟩ := key
        refine ⟨r, ?_, hr⟩
        have ee : em k = nI (k + 4294967295) := rfl
        rw [ee] at e
        rw [em_s]
        by_cases c : hs g k = true
        · have v1 : vz P g k = P 3 k := if_pos c
          rw [v1] at e
          simp (disch := omega) only [f_M_laysFits_b, M_hasT c, h3, hPl, e, bI_s, bV_s, bL_s, bR_s, bG_s, bG_n, bX_l, bX_r, ck_nI, nI_clamp, nI_leT, nI_leF, nI_ltT, nI_ltF, nI_eqF, nI_add, pk_mul, ofN, bt_e, or0, Nat.zero_add, Nat.add_zero, ↓reduceIte, if_true, if_false, Bool.false_eq_true, eq_self, li0, li1, li2, li3, li4, li5, li6, li7, li8, li9, li10, li11, li12, li14, li15, li16, li18, li19, li20, li23, li24, li25, li26, li27, li30, li31, li32, li36, li40, li41, li42, li43, li44, li45, li47, li48, li57, li59, li60, li91, li93, li96, li97, li100, li105, li122, li150, li200, li255, li400, li500, li600, li999, li1000, li1001, li2000, li2001, li2002, li2003, li2004, li2005, li2006, li32767, li100000, li_neg, li13, li17, li21, li22, li28, li29, li33, li34, li35, li37, li38, li39, li46, li49, li50, li51, li52, li53, li63, li80, li115, li160]
        · have v1 : vz P g k = 0 := if_neg c
          rw [v1] at e
          simp (disch := omega) only [f_M_laysFits_b, M_hasF c, h3, bI_s, bV_s, bL_s, bR_s, bG_s, bG_n, bX_l, bX_r, ck_nI, nI_clamp, nI_leT, nI_leF, nI_ltT, nI_ltF, nI_eqF, nI_add, pk_mul, ofN, bt_e, or0, Nat.zero_add, Nat.add_zero, ↓reduceIte, if_true, if_false, Bool.false_eq_true, eq_self, li0, li1, li2, li3, li4, li5, li6, li7, li8, li9, li10, li11, li12, li14, li15, li16, li18, li19, li20, li23, li24, li25, li26, li27, li30, li31, li32, li36, li40, li41, li42, li43, li44, li45, li47, li48, li57, li59, li60, li91, li93, li96, li97, li100, li105, li122, li150, li200, li255, li400, li500, li600, li999, li1000, li1001, li2000, li2001, li2002, li2003, li2004, li2005, li2006, li32767, li100000, li_neg, li13, li17, li21, li22, li28, li29, li33, li34, li35, li37, li38, li39, li46, li49, li50, li51, li52, li53, li63, li80, li115, li160]
          exact e
      · by_cases q : j = k
        · subst q; rw [gI_same, hlz, Nat.add_comm]
        · rw [gI_ne (Or.inr q)]; exact h.2.2 j (by omega) h2
  have f1 : FW m N (sI (sI N m 48 (nI 4294967295)) (m + 496) (P 0 2) (nI 0)) := ((FW.rf _ N).sI (by unfold wR; omega)).sI (by unfold wR; omega)
  have key := down (P 0 2) FU (sI (sI N m 48 (nI 4294967295)) (m + 496) (P 0 2) (nI 0)) (by omega) (FU_lt (by omega)) ⟨f1, by rw [gI_ne (Or.inl (by omega)), gI_same], fun j h1 h2 => ?_⟩
  · obtain ⟨r, e, hr⟩ := key
    refine ⟨r, ?_, hr⟩
    have q1 := hQ.b
    have q2 := em_n (P 0 2) (by omega)
    simp (disch := omega) only [f_M_laysFits, q1, q2, e, bI_s, bV_s, bL_s, bR_s, bG_s, bG_n, bX_l, bX_r, ck_nI, nI_clamp, nI_leT, nI_leF, nI_ltT, nI_ltF, nI_eqF, nI_add, pk_mul, ofN, bt_e, or0, Nat.zero_add, Nat.add_zero, ↓reduceIte, if_true, if_false, Bool.false_eq_true, eq_self, li0, li1, li2, li3, li4, li5, li6, li7, li8, li9, li10, li11, li12, li14, li15, li16, li18, li19, li20, li23, li24, li25, li26, li27, li30, li31, li32, li36, li40, li41, li42, li43, li44, li45, li47, li48, li57, li59, li60, li91, li93, li96, li97, li100, li105, li122, li150, li200, li255, li400, li500, li600, li999, li1000, li1001, li2000, li2001, li2002, li2003, li2004, li2005, li2006, li32767, li100000, li_neg, li13, li17, li21, li22, li28, li29, li33, li34, li35, li37, li38, li39, li46, li49, li50, li51, li52, li53, li63, li80, li115, li160, gI_same, gI_ne, gI_eq2, gR_sI, gL_sI, gI_sL, gR_sL, gI_sR, gL_sR]
  · obtain rfl : j = P 0 2 := by omega
    rw [gI_same, Nat.sub_self]; rfl
theorem A_fits (h : InvS o M S) (p0 : Int32) : Ag cd1 Int32.toInt64 o (fun k => k = 1) (f_C_fits o p0 M) (fun M1 => f_M_fits (o + 61) p0 M1) := by
  obtain ⟨p, l, d, hr, ⟨hP, hW⟩, ⟨⟨t1, t2⟩, t3, ⟨t4, t5, t6⟩, t7, t8⟩, ⟨hL, hD⟩, oP, oW⟩ := h.u
  have hr10 := hr.2.1.1
  have hr12 := hr.2.2.1.1
  have hr14 := hr.2.2.2.1
  have hRb := oP.r
  have hBb := oP.b
  have hWb := oP.w
  have hLb := oW.l
  have hp := hr.1.1
  rcases bts p0 (S.1 0 2) (by omega) with ⟨g, h1, rfl⟩ | ⟨w1, w2⟩
  · obtain ⟨M', e, f, g1, g2⟩ := C_search (M := M) (f := o + 19) (g := nI g) oP hP (by omega)
    refine agR h (v := em (frS S.1 (nI g)).1) (M' := M') ?_ (f.mono (fun a ha => Or.inl (by unfold rg at ha; omega))) (fun M1 hm => ?_)
    · simp (disch := omega) only [f_C_fits, hr10, hP.b, C_areT, f_C_mustBe, e, g1, bI_s, bV_s, bL_s, bR_s, bG_s, bG_n, bX_l, bX_r, ck_nI, nI_clamp, nI_leT, nI_leF, nI_ltT, nI_ltF, nI_eqF, nI_add, pk_mul, ofN, bt_e, or0, Nat.zero_add, Nat.add_zero, ↓reduceIte, if_true, if_false, Bool.false_eq_true, eq_self, li0, li1, li2, li3, li4, li5, li6, li7, li8, li9, li10, li11, li12, li14, li15, li16, li18, li19, li20, li23, li24, li25, li26, li27, li30, li31, li32, li36, li40, li41, li42, li43, li44, li45, li47, li48, li57, li59, li60, li91, li93, li96, li97, li100, li105, li122, li150, li200, li255, li400, li500, li600, li999, li1000, li1001, li2000, li2001, li2002, li2003, li2004, li2005, li2006, li32767, li100000, li_neg, li13, li17, li21, li22, li28, li29, li33, li34, li35, li37, li38, li39, li46, li49, li50, li51, li52, li53, li63, li80, li115, li160]
    · obtain ⟨N', n1, n2, n3, n4⟩ := M_lays (g := nI g) oP hm.1.1
      refine ⟨N', ?_, by rw [n2.2.1 _ _ (by unfold wR; omega)]; exact gI_same .., n2.fm⟩
      simp (disch := omega) only [f_M_fits, f_M_fits_b, f_M_areBids, hm.1.1.b, M_areT, hm.b0, n1, n3, bI_s, bV_s, bL_s, bR_s, bG_s, bG_n, bX_l, bX_r, ck_nI, nI_clamp, nI_leT, nI_leF, nI_ltT, nI_ltF, nI_eqF, nI_add, pk_mul, ofN, bt_e, or0, Nat.zero_add, Nat.add_zero, ↓reduceIte, if_true, if_false, Bool.false_eq_true, eq_self, li0, li1, li2, li3, li4, li5, li6, li7, li8, li9, li10, li11, li12, li14, li15, li16, li18, li19, li20, li23, li24, li25, li26, li27, li30, li31, li32, li36, li40, li41, li42, li43, li44, li45, li47, li48, li57, li59, li60, li91, li93, li96, li97, li100, li105, li122, li150, li200, li255, li400, li500, li600, li999, li1000, li1001, li2000, li2001, li2002, li2003, li2004, li2005, li2006, li32767, li100000, li_neg, li13, li17, li21, li22, li28, li29, li33, li34, li35, li37, li38, li39, li46, li49, li50, li51, li52, li53, li63, li80, li115, li160]
  · refine agE1 h (cc := 1) rfl rfl (by omega) ?_ (nI 0) (fun M1 hm => ?_)
    · simp (disch := omega) only [f_C_fits, hr10, hP.b, w1, f_C_mustBe, t6, bI_s, bV_s, bL_s, bR_s, bG_s, bG_n, bX_l, bX_r, ck_nI, nI_clamp, nI_leT, nI_leF, nI_ltT, nI_ltF, nI_eqF, nI_add, pk_mul, ofN, bt_e, or0, Nat.zero_add, Nat.add_zero, ↓reduceIte, if_true, if_false, Bool.false_eq_true, eq_self, li0, li1, li2, li3, li4, li5, li6, li7, li8, li9, li10, li11, li12, li14, li15, li16, li18, li19, li20, li23, li24, li25, li26, li27, li30, li31, li32, li36, li40, li41, li42, li43, li44, li45, li47, li48, li57, li59, li60, li91, li93, li96, li97, li100, li105, li122, li150, li200, li255, li400, li500, li600, li999, li1000, li1001, li2000, li2001, li2002, li2003, li2004, li2005, li2006, li32767, li100000, li_neg, li13, li17, li21, li22, li28, li29, li33, li34, li35, li37, li38, li39, li46, li49, li50, li51, li52, li53, li63, li80, li115, li160]
    · simp (disch := omega) only [f_M_fits, f_M_fits_b, f_M_areBids, hm.1.1.b, w2, hm.b11, bI_s, bV_s, bL_s, bR_s, bG_s, bG_n, bX_l, bX_r, ck_nI, nI_clamp, nI_leT, nI_leF, nI_ltT, nI_ltF, nI_eqF, nI_add, pk_mul, ofN, bt_e, or0, Nat.zero_add, Nat.add_zero, ↓reduceIte, if_true, if_false, Bool.false_eq_true, eq_self, li0, li1, li2, li3, li4, li5, li6, li7, li8, li9, li10, li11, li12, li14, li15, li16, li18, li19, li20, li23, li24, li25, li26, li27, li30, li31, li32, li36, li40, li41, li42, li43, li44, li45, li47, li48, li57, li59, li60, li91, li93, li96, li97, li100, li105, li122, li150, li200, li255, li400, li500, li600, li999, li1000, li1001, li2000, li2001, li2002, li2003, li2004, li2005, li2006, li32767, li100000, li_neg, li13, li17, li21, li22, li28, li29, li33, li34, li35, li37, li38, li39, li46, li49, li50, li51, li52, li53, li63, li80, li115, li160]
theorem A_fitted (h : InvS o M S) (p0 p1 : Int32) : Ag cd2 Int32.toInt64 o (fun k => k ≤ 1) (f_C_fitted o p0 p1 M) (fun M1 => f_M_fitted (o + 61) p0 p1 M1) := by
  obtain ⟨p, l, d, hr, ⟨hP, hW⟩, ⟨⟨t1, t2⟩, t3, ⟨t4, t5, t6⟩, t7, t8⟩, ⟨hL, hD⟩, oP, oW⟩ := h.u
  have hr10 := hr.2.1.1
  have hr12 := hr.2.2.1.1
  have hr14 := hr.2.2.2.1
  have hRb := oP.r
  have hBb := oP.b
  have hWb := oP.w
  have hLb := oW.l
  have hp := hr.1.1
  rcases bel p1 (S.1 0 2) (by omega) with ⟨b, h2, rfl⟩ | ⟨b1, b2, _⟩
  · have z1 : nI (S.1 0 2) - nI 1 = nI (S.1 0 2 - 1) := pk_sub (by omega)
    rcases bts p0 (S.1 0 2) (by omega) with ⟨g, h1, rfl⟩ | ⟨w1, w2⟩
    · obtain ⟨M', e, f, g1, g2⟩ := C_search (M := M) (f := o + 19) (g := nI g) oP hP (by omega)
      have g3 := g2 b h2
      refine agR h (v := (frS S.1 (nI g)).2 b) (M' := M') ?_ (f.mono (fun a ha => Or.inl (by unfold rg at ha; omega))) (fun M1 hm => ?_)
      · simp (disch := omega) only [f_C_fitted, hr10, hP.b, C_belT, C_areT, f_C_mustBe, f_C_mustExist, e, g3, bI_s, bV_s, bL_s, bR_s, bG_s, bG_n, bX_l, bX_r, ck_nI, nI_clamp, nI_leT, nI_leF, nI_ltT, nI_ltF, nI_eqF, nI_add, pk_mul, ofN, bt_e, or0, Nat.zero_add, Nat.add_zero, ↓reduceIte, if_true, if_false, Bool.false_eq_true, eq_self, li0, li1, li2, li3, li4, li5, li6, li7, li8, li9, li10, li11, li12, li14, li15, li16, li18, li19, li20, li23, li24, li25, li26, li27, li30, li31, li32, li36, li40, li41, li42, li43, li44, li45, li47, li48, li57, li59, li60, li91, li93, li96, li97, li100, li105, li122, li150, li200, li255, li400, li500, li600, li999, li1000, li1001, li2000, li2001, li2002, li2003, li2004, li2005, li2006, li32767, li100000, li_neg, li13, li17, li21, li22, li28, li29, li33, li34, li35, li37, li38, li39, li46, li49, li50, li51, li52, li53, li63, li80, li115, li160]
      · obtain ⟨N', n1, n2, n3, n4⟩ := M_lays (g := nI g) oP hm.1.1
        have n5 := n4 b h2
        refine ⟨N', ?_, by rw [n2.2.1 _ _ (by unfold wR; omega)]; exact gI_same .., n2.fm⟩
        simp (disch := omega) only [f_M_fitted, f_M_fitted_b, f_M_fitted_c, f_M_isBid, f_M_areBids, hm.1.1.b, z1, M_inT, M_areT, hm.b0, n1, n5, bI_s, bV_s, bL_s, bR_s, bG_s, bG_n, bX_l, bX_r, ck_nI, nI_clamp, nI_leT, nI_leF, nI_ltT, nI_ltF, nI_eqF, nI_add, pk_mul, ofN, bt_e, or0, Nat.zero_add, Nat.add_zero, ↓reduceIte, if_true, if_false, Bool.false_eq_true, eq_self, li0, li1, li2, li3, li4, li5, li6, li7, li8, li9, li10, li11, li12, li14, li15, li16, li18, li19, li20, li23, li24, li25, li26, li27, li30, li31, li32, li36, li40, li41, li42, li43, li44, li45, li47, li48, li57, li59, li60, li91, li93, li96, li97, li100, li105, li122, li150, li200, li255, li400, li500, li600, li999, li1000, li1001, li2000, li2001, li2002, li2003, li2004, li2005, li2006, li32767, li100000, li_neg, li13, li17, li21, li22, li28, li29, li33, li34, li35, li37, li38, li39, li46, li49, li50, li51, li52, li53, li63, li80, li115, li160]
    · refine agE1 h (cc := 2) (by omega) rfl (by omega) ?_ (nI 0) (fun M1 hm => ?_)
      · simp (disch := omega) only [f_C_fitted, hr10, hP.b, C_belT, w1, f_C_mustBe, f_C_mustExist, t6, bI_s, bV_s, bL_s, bR_s, bG_s, bG_n, bX_l, bX_r, ck_nI, nI_clamp, nI_leT, nI_leF, nI_ltT, nI_ltF, nI_eqF, nI_add, pk_mul, ofN, bt_e, or0, Nat.zero_add, Nat.add_zero, ↓reduceIte, if_true, if_false, Bool.false_eq_true, eq_self, li0, li1, li2, li3, li4, li5, li6, li7, li8, li9, li10, li11, li12, li14, li15, li16, li18, li19, li20, li23, li24, li25, li26, li27, li30, li31, li32, li36, li40, li41, li42, li43, li44, li45, li47, li48, li57, li59, li60, li91, li93, li96, li97, li100, li105, li122, li150, li200, li255, li400, li500, li600, li999, li1000, li1001, li2000, li2001, li2002, li2003, li2004, li2005, li2006, li32767, li100000, li_neg, li13, li17, li21, li22, li28, li29, li33, li34, li35, li37, li38, li39, li46, li49, li50, li51, li52, li53, li63, li80, li115, li160]
      · simp (disch := omega) only [f_M_fitted, f_M_fitted_b, f_M_fitted_c, f_M_isBid, f_M_areBids, hm.1.1.b, z1, M_inT, w2, hm.b0, hm.b11, bI_s, bV_s, bL_s, bR_s, bG_s, bG_n, bX_l, bX_r, ck_nI, nI_clamp, nI_leT, nI_leF, nI_ltT, nI_ltF, nI_eqF, nI_add, pk_mul, ofN, bt_e, or0, Nat.zero_add, Nat.add_zero, ↓reduceIte, if_true, if_false, Bool.false_eq_true, eq_self, li0, li1, li2, li3, li4, li5, li6, li7, li8, li9, li10, li11, li12, li14, li15, li16, li18, li19, li20, li23, li24, li25, li26, li27, li30, li31, li32, li36, li40, li41, li42, li43, li44, li45, li47, li48, li57, li59, li60, li91, li93, li96, li97, li100, li105, li122, li150, li200, li255, li400, li500, li600, li999, li1000, li1001, li2000, li2001, li2002, li2003, li2004, li2005, li2006, li32767, li100000, li_neg, li13, li17, li21, li22, li28, li29, li33, li34, li35, li37, li38, li39, li46, li49, li50, li51, li52, li53, li63, li80, li115, li160]
  · refine agE0 h (by omega) rfl ?_ (nI 0) (fun M1 hm => ?_)
    · simp (disch := omega) only [f_C_fitted, hr10, hP.b, b1, f_C_mustExist, t5, bI_s, bV_s, bL_s, bR_s, bG_s, bG_n, bX_l, bX_r, ck_nI, nI_clamp, nI_leT, nI_leF, nI_ltT, nI_ltF, nI_eqF, nI_add, pk_mul, ofN, bt_e, or0, Nat.zero_add, Nat.add_zero, ↓reduceIte, if_true, if_false, Bool.false_eq_true, eq_self, li0, li1, li2, li3, li4, li5, li6, li7, li8, li9, li10, li11, li12, li14, li15, li16, li18, li19, li20, li23, li24, li25, li26, li27, li30, li31, li32, li36, li40, li41, li42, li43, li44, li45, li47, li48, li57, li59, li60, li91, li93, li96, li97, li100, li105, li122, li150, li200, li255, li400, li500, li600, li999, li1000, li1001, li2000, li2001, li2002, li2003, li2004, li2005, li2006, li32767, li100000, li_neg, li13, li17, li21, li22, li28, li29, li33, li34, li35, li37, li38, li39, li46, li49, li50, li51, li52, li53, li63, li80, li115, li160]
    · simp (disch := omega) only [f_M_fitted, f_M_fitted_b, f_M_isBid, hm.1.1.b, b2, hm.b10, bI_s, bV_s, bL_s, bR_s, bG_s, bG_n, bX_l, bX_r, ck_nI, nI_clamp, nI_leT, nI_leF, nI_ltT, nI_ltF, nI_eqF, nI_add, pk_mul, ofN, bt_e, or0, Nat.zero_add, Nat.add_zero, ↓reduceIte, if_true, if_false, Bool.false_eq_true, eq_self, li0, li1, li2, li3, li4, li5, li6, li7, li8, li9, li10, li11, li12, li14, li15, li16, li18, li19, li20, li23, li24, li25, li26, li27, li30, li31, li32, li36, li40, li41, li42, li43, li44, li45, li47, li48, li57, li59, li60, li91, li93, li96, li97, li100, li105, li122, li150, li200, li255, li400, li500, li600, li999, li1000, li1001, li2000, li2001, li2002, li2003, li2004, li2005, li2006, li32767, li100000, li_neg, li13, li17, li21, li22, li28, li29, li33, li34, li35, li37, li38, li39, li46, li49, li50, li51, li52, li53, li63, li80, li115, li160]
end
