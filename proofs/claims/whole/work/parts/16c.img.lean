/-! # functional level, 21: images -/
def sc (m t : Nat) : Nat := if t = 0 then m else if t < 106 then m + 470 else m + 472 + 1 + (t - 106) / 105
def sj (t : Nat) : Nat := if t = 0 then 38 else if t < 106 then t - 1 else (t - 106) % 105
theorem sc_inj {m s t : Nat} (hs : s < 1786) (ht : t < 1786) (h : s ≠ t) : sc m s ≠ sc m t ∨ sj s ≠ sj t := by
  unfold sc sj
  by_cases a1 : s = 0
  · rw [if_pos a1, if_pos a1]
    by_cases b1 : t = 0
    · omega
    · rw [if_neg b1, if_neg b1]
      by_cases b2 : t < 106
      · rw [if_pos b2, if_pos b2]; omega
      · rw [if_neg b2, if_neg b2]; omega
  · rw [if_neg a1, if_neg a1]
    by_cases a2 : s < 106
    · rw [if_pos a2, if_pos a2]
      by_cases b1 : t = 0
      · rw [if_pos b1, if_pos b1]; omega
      · rw [if_neg b1, if_neg b1]
        by_cases b2 : t < 106
        · rw [if_pos b2, if_pos b2]; omega
        · rw [if_neg b2, if_neg b2]; omega
    · rw [if_neg a2, if_neg a2]
      by_cases b1 : t = 0
      · rw [if_pos b1, if_pos b1]; omega
      · rw [if_neg b1, if_neg b1]
        by_cases b2 : t < 106
        · rw [if_pos b2, if_pos b2]; omega
        · rw [if_neg b2, if_neg b2]; omega
theorem sc_b {m t : Nat} (ht : t < 1786) : (sc m t = m ∧ sj t = 38) ∨ (sc m t = m + 470 ∧ sj t < 105) ∨ (m + 473 ≤ sc m t ∧ sc m t < m + 489 ∧ sj t < 105) := by
  unfold sc sj
  by_cases a1 : t = 0
  · rw [if_pos a1, if_pos a1]; exact Or.inl ⟨rfl, rfl⟩
  · rw [if_neg a1, if_neg a1]
    by_cases a2 : t < 106
    · rw [if_pos a2, if_pos a2]; omega
    · rw [if_neg a2, if_neg a2]; omega
theorem sc_n {m k : Nat} (hk : k < 105) : sc m (1 + k) = m + 470 ∧ sj (1 + k) = k := by
  unfold sc sj
  have h0 : ¬ 1 + k = 0 := by omega
  have h1 : 1 + k < 106 := by omega
  rw [if_neg h0, if_neg h0, if_pos h1, if_pos h1]
  exact ⟨rfl, by omega⟩
theorem sc_w {m w k : Nat} (hk : k < 105) : sc m (106 + 105 * w + k) = m + 472 + 1 + w ∧ sj (106 + 105 * w + k) = k := by
  unfold sc sj
  have h0 : ¬ 106 + 105 * w + k = 0 := by omega
  have h1 : ¬ 106 + 105 * w + k < 106 := by omega
  rw [if_neg h0, if_neg h0, if_neg h1, if_neg h1]
  omega
section
variable {M M' M0 M1 M2 N : Mm} {o m r : Nat} {S S' : St} {P W X X' W' : TT} {V V' : Nat → TT} {I I' : Nat → Nat → TT}
def tv (M : Mm) (m r bk s : Nat) : Int32 := if bk = 0 then gI M (sc m s) (sj s) else gI M r s
def PA (M0 : Mm) (m r bk : Nat) (N : Mm) (t : Nat) : Prop := (gI N m 41 = nI t ∧ Fr (rg m 499) M0 N) ∧ (∀ s, s < 1786 → gI N r s = if s < t then tv M0 m r bk s else gI M0 r s) ∧ (∀ s, s < 1786 → gI N (sc m s) (sj s) = if s < t then tv M0 m r bk s else gI M0 (sc m s) (sj s)) ∧ ∀ a i, ¬ (a = r ∧ i < 1786) → ¬ (a = m ∧ i = 41) → (∀ s, s < 1786 → ¬ (a = sc m s ∧ i = sj s)) → gI N a i = gI M0 a i
theorem PA.step {bk t : Nat} (h : PA M0 m r bk N t) (hb : bk ≤ 1) (hr : m + 490 ≤ r ∧ r < m + 493) (ht : t < 1786) : ∃ N', f_M_puts m r 1786 (gI N (sc m t) (sj t)) (nI bk) N = some (tv M0 m r bk t, N') ∧ PA M0 m r bk (sI N' (sc m t) (sj t) (tv M0 m r bk t)) (t + 1) := by
  obtain ⟨⟨h1, h2⟩, h3, h4, h5⟩ := h
  have hs := sc_b (m := m) ht
  have e4 := h4 t ht
  rw [if_neg (by omega)] at e4
  have e3 := h3 t ht
  rw [if_neg (by omega)] at e3
  have fin : ∀ N1 : Mm, Fr (rg m 499) M0 N1 → (∀ a i, ¬ (a = r ∧ i = t) → gI N1 a i = gI N a i) → gI N1 r t = tv M0 m r bk t → PA M0 m r bk (sI (sI N1 m 41 (nI (t + 1))) (sc m t) (sj t) (tv M0 m r bk t)) (t + 1) := by
    intro N1 f1 g1 g2
    refine ⟨⟨?_, (f1.sI ⟨by omega, by omega⟩).sI ⟨by omega, by omega⟩⟩, fun s hs1 => ?_, fun s hs1 => ?_, fun a i ha hb hc => ?_⟩
    · rw [gI_ne (by omega)]; exact gI_same ..
    · rw [gI_ne (by omega), gI_ne (by omega)]
      by_cases c : s = t
      · subst c; rw [if_pos (by omega)]; exact g2
      · rw [g1 _ _ (by omega), h3 s hs1]
        by_cases c2 : s < t
        · rw [if_pos c2, if_pos (by omega)]
        · rw [if_neg c2, if_neg (by omega)]
    · by_cases c : s = t
      · subst c; rw [if_pos (by omega)]; exact gI_same ..
      · have hq := sc_b (m := m) hs1
        rw [gI_ne (sc_inj hs1 ht c), gI_ne (by omega), g1 _ _ (by omega), h4 s hs1]
        by_cases c2 : s < t
        · rw [if_pos c2, if_pos (by omega)]
        · rw [if_neg c2, if_neg (by omega)]
    · have := hc t ht
      rw [gI_ne (by omega), gI_ne (by omega), g1 _ _ (by omega)]
      exact h5 a i ha hb hc
  obtain q | q : bk = 0 ∨ bk = 1 := by omega
  · subst q
    have ev : tv M0 m r 0 t = gI M0 (sc m t) (sj t) := rfl
    refine ⟨sI (sI N r t (tv M0 m r 0 t)) m 41 (nI (t + 1)), ?_, fin (sI N r t (tv M0 m r 0 t)) (h2.sI ⟨by omega, by omega⟩) (fun a i ha => gI_ne (by omega)) (gI_same ..)⟩
    rw [e4, ← ev]
    simp (disch := omega) only [f_M_puts, f_M_puts_b, h1, pk_sub, Nat.add_sub_cancel, bI_s, bV_s, bL_s, bR_s, bG_s, bG_n, bX_l, bX_r, ck_nI, nI_clamp, nI_leT, nI_leF, nI_ltT, nI_ltF, nI_eqF, nI_add, pk_mul, ofN, bt_e, or0, Nat.zero_add, Nat.add_zero, ↓reduceIte, if_true, if_false, Bool.false_eq_true, eq_self, li0, li1, li2, li3, li4, li5, li6, li7, li8, li9, li10, li11, li12, li14, li15, li16, li18, li19, li20, li23, li24, li25, li26, li27, li30, li31, li32, li36, li40, li41, li42, li43, li44, li45, li47, li48, li57, li59, li60, li91, li93, li96, li97, li100, li105, li122, li150, li200, li255, li400, li500, li600, li999, li1000, li1001, li2000, li2001, li2002, li2003, li2004, li2005, li2006, li32767, li100000, li_neg, li13, li17, li21, li22, li28, li29, li33, li34, li35, li37, li38, li39, li46, li49, li50, li51, li52, li53, li63, li80, li115, li160, gI_same, gI_ne, gI_eq2, gR_sI, gL_sI, gI_sL, gR_sL, gI_sR, gL_sR]
  · subst q
    have ev : tv M0 m r 1 t = gI M0 r t := rfl
    refine ⟨sI N m 41 (nI (t + 1)), ?_, fin N h2 (fun a i _ => rfl) (by rw [e3, ev])⟩
    rw [← ev] at e3
    simp (disch := omega) only [f_M_puts, f_M_puts_b, h1, e3, pk_sub, Nat.add_sub_cancel, bI_s, bV_s, bL_s, bR_s, bG_s, bG_n, bX_l, bX_r, ck_nI, nI_clamp, nI_leT, nI_leF, nI_ltT, nI_ltF, nI_eqF, nI_add, pk_mul, ofN, bt_e, or0, Nat.zero_add, Nat.add_zero, ↓reduceIte, if_true, if_false, Bool.false_eq_true, eq_self, li0, li1, li2, li3, li4, li5, li6, li7, li8, li9, li10, li11, li12, li14, li15, li16, li18, li19, li20, li23, li24, li25, li26, li27, li30, li31, li32, li36, li40, li41, li42, li43, li44, li45, li47, li48, li57, li59, li60, li91, li93, li96, li97, li100, li105, li122, li150, li200, li255, li400, li500, li600, li999, li1000, li1001, li2000, li2001, li2002, li2003, li2004, li2005, li2006, li32767, li100000, li_neg, li13, li17, li21, li22, li28, li29, li33, li34, li35, li37, li38, li39, li46, li49, li50, li51, li52, li53, li63, li80, li115, li160, gI_same, gI_ne, gI_eq2, gR_sI, gL_sI, gI_sL, gR_sL, gI_sR, gL_sR]
theorem M_putsAll {bk : Nat} (hb : bk ≤ 1) (hr : m + 490 ≤ r ∧ r < m + 493) : ∃ N, f_M_putsAll m r 1786 (nI bk) M = some N ∧ PA (sI M m 41 (nI 0)) m r bk N 1786 := by
  have p0 : PA (sI M m 41 (nI 0)) m r bk (sI M m 41 (nI 0)) 0 := ⟨⟨gI_same .., Fr.rf _ _⟩, fun s _ => by rw [if_neg (by omega)], fun s _ => by rw [if_neg (by omega)], fun a i _ _ _ => rfl⟩
  obtain ⟨N1, e1, p1⟩ := p0.step hb hr (by omega)
  have z0 : sc m 0 = m ∧ sj 0 = 38 := ⟨rfl, rfl⟩
  rw [z0.1, z0.2] at e1 p1
  have inner : ∀ (kc : Nat → Nat → Nat → Int32 → Int32 → Mm → Option Mm) (w : Nat) (N : Mm), w < 16 → PA (sI M m 41 (nI 0)) m r bk N (106 + 105 * w) → ∃ N', f_M_putsAll_d kc FU m r 1786 (nI bk) (nI w) (nI 0) N = kc m r 1786 (nI bk) (nI (w + 1)) N' ∧ PA (sI M m 41 (nI 0)) m r bk N' (106 + 105 * (w + 1)) := by
    intro kc w N hw hN
    have key : ∀ d i u N, i + d = 105 → d < u → PA (sI M m 41 (nI 0)) m r bk N (106 + 105 * w + i) → ∃ N', f_M_putsAll_d kc u m r 1786 (nI bk) (nI w) (nI i) N = kc m r 1786 (nI bk) (nI (w + 1)) N' ∧ PA (sI M m 41 (nI 0)) m r bk N' (106 + 105 * (w + 1)) := by
      intro d
      induction d with
      | zero =>
        intro i u N hi hu hN
        obtain ⟨u, rfl⟩ : ∃ v, u = v + 1 := ⟨u - 1, by omega⟩
        refine ⟨N, ?_, ?_⟩
        · simp (disch := omega) only [f_M_putsAll_d, bI_s, bV_s, bL_s, bR_s, bG_s, bG_n, bX_l, bX_r, ck_nI, nI_clamp, nI_leT, nI_leF, nI_ltT, nI_ltF, nI_eqF, nI_add, pk_mul, ofN, bt_e, or0, Nat.zero_add, Nat.add_zero, ↓reduceIte, if_true, if_false, Bool.false_eq_true, eq_self, li0, li1, li2, li3, li4, li5, li6, li7, li8, li9, li10, li11, li12, li14, li15, li16, li18, li19, li20, li23, li24, li25, li26, li27, li30, li31, li32, li36, li40, li41, li42, li43, li44, li45, li47, li48, li57, li59, li60, li91, li93, li96, li97, li100, li105, li122, li150, li200, li255, li400, li500, li600, li999, li1000, li1001, li2000, li2001, li2002, li2003, li2004, li2005, li2006, li32767, li100000, li_neg, li13, li17, li21, li22, li28, li29, li33, li34, li35, li37, li38, li39, li46, li49, li50, li51, li52, li53, li63, li80, li115, li160]
        · have e : 106 + 105 * (w + 1) = 106 + 105 * w + i := by omega
          rw [e]; exact hN
      | succ d ih =>
        intro i u N hi hu hN
        obtain ⟨u, rfl⟩ : ∃ v, u = v + 1 := ⟨u - 1, by omega⟩
        obtain ⟨N', e2, p2⟩ := hN.step hb hr (by omega)
        obtain ⟨q1, q2⟩ := sc_w (m := m) (w := w) (show i < 105 by omega)
        rw [q1, q2] at e2 p2
        obtain ⟨N3, e3, p3⟩ := ih (i + 1) u _ (by omega) (by omega) p2
        refine ⟨N3, ?_, p3⟩
        rw [← e3]
        simp (disch := omega) only [f_M_putsAll_d, e2, bI_s, bV_s, bL_s, bR_s, bG_s, bG_n, bX_l, bX_r, ck_nI, nI_clamp, nI_leT, nI_leF, nI_ltT, nI_ltF, nI_eqF, nI_add, pk_mul, ofN, bt_e, or0, Nat.zero_add, Nat.add_zero, ↓reduceIte, if_true, if_false, Bool.false_eq_true, eq_self, li0, li1, li2, li3, li4, li5, li6, li7, li8, li9, li10, li11, li12, li14, li15, li16, li18, li19, li20, li23, li24, li25, li26, li27, li30, li31, li32, li36, li40, li41, li42, li43, li44, li45, li47, li48, li57, li59, li60, li91, li93, li96, li97, li100, li105, li122, li150, li200, li255, li400, li500, li600, li999, li1000, li1001, li2000, li2001, li2002, li2003, li2004, li2005, li2006, li32767, li100000, li_neg, li13, li17, li21, li22, li28, li29, li33, li34, li35, li37, li38, li39, li46, li49, li50, li51, li52, li53, li63, li80, li115, li160]
    exact key 105 0 FU N (by omega) (FU_lt (by omega)) hN
  have mid : ∀ d w u N, w + d = 16 → d < u → PA (sI M m 41 (nI 0)) m r bk N (106 + 105 * w) → ∃ N', f_M_putsAll_c u m r 1786 (nI bk) (nI w) N = some N' ∧ PA (sI M m 41 (nI 0)) m r bk N' 1786 := by
    intro d
    induction d with
    | zero =>
      intro w u N hi hu hN
      obtain ⟨u, rfl⟩ : ∃ v, u = v + 1 := ⟨u - 1, by omega⟩
      refine ⟨N, ?_, ?_⟩
      · simp (disch := omega) only [f_M_putsAll_c, bI_s, bV_s, bL_s, bR_s, bG_s, bG_n, bX_l, bX_r, ck_nI, nI_clamp, nI_leT, nI_leF, nI_ltT, nI_ltF, nI_eqF, nI_add, pk_mul, ofN, bt_e, or0, Nat.zero_add, Nat.add_zero, ↓reduceIte, if_true, if_false, Bool.false_eq_true, eq_self, li0, li1, li2, li3, li4, li5, li6, li7, li8, li9, li10, li11, li12, li14, li15, li16, li18, li19, li20, li23, li24, li25, li26, li27, li30, li31, li32, li36, li40, li41, li42, li43, li44, li45, li47, li48, li57, li59, li60, li91, li93, li96, li97, li100, li105, li122, li150, li200, li255, li400, li500, li600, li999, li1000, li1001, li2000, li2001, li2002, li2003, li2004, li2005, li2006, li32767, li100000, li_neg, li13, li17, li21, li22, li28, li29, li33, li34, li35, li37, li38, li39, li46, li49, li50, li51, li52, li53, li63, li80, li115, li160]
      · have e : 1786 = 106 + 105 * w := by omega
        rw [e]; exact hN
    | succ d ih =>
      intro w u N hi hu hN
      obtain ⟨u, rfl⟩ : ∃ v, u = v + 1 := ⟨u - 1, by omega⟩
      obtain ⟨N', e2, p2⟩ := inner (f_M_putsAll_c u) w N (by omega) hN
      obtain ⟨N3, e3, p3⟩ := ih (w + 1) u N' (by omega) (by omega) p2
      refine ⟨N3, ?_, p3⟩
      rw [← e3, ← e2]
      simp (disch := omega) only [f_M_putsAll_c, bI_s, bV_s, bL_s, bR_s, bG_s, bG_n, bX_l, bX_r, ck_nI, nI_clamp, nI_leT, nI_leF, nI_ltT, nI_ltF, nI_eqF, nI_add, pk_mul, ofN, bt_e, or0, Nat.zero_add, Nat.add_zero, ↓reduceIte, if_true, if_false, Bool.false_eq_true, eq_self, li0, li1, li2, li3, li4, li5, li6, li7, li8, li9, li10, li11, li12, li14, li15, li16, li18, li19, li20, li23, li24, li25, li26, li27, li30, li31, li32, li36, li40, li41, li42, li43, li44, li45, li47, li48, li57, li59, li60, li91, li93, li96, li97, li100, li105, li122, li150, li200, li255, li400, li500, li600, li999, li1000, li1001, li2000, li2001, li2002, li2003, li2004, li2005, li2006, li32767, li100000, li_neg, li13, li17, li21, li22, li28, li29, li33, li34, li35, li37, li38, li39, li46, li49, li50, li51, li52, li53, li63, li80, li115, li160]
  have first : ∀ d i u N, i + d = 105 → d < u → PA (sI M m 41 (nI 0)) m r bk N (1 + i) → ∃ N', f_M_putsAll_b u m r 1786 (nI bk) (nI i) N = some N' ∧ PA (sI M m 41 (nI 0)) m r bk N' 1786 := by
    intro d
    induction d with
    | zero =>
      intro i u N hi hu hN
      obtain ⟨u, rfl⟩ : ∃ v, u = v + 1 := ⟨u - 1, by omega⟩
      have e : 1 + i = 106 + 105 * 0 := by omega
      rw [e] at hN
      obtain ⟨N3, e3, p3⟩ := mid 16 0 FU N (by omega) (FU_lt (by omega)) hN
      refine ⟨N3, ?_, p3⟩
      rw [← e3]
      simp (disch := omega) only [f_M_putsAll_b, bI_s, bV_s, bL_s, bR_s, bG_s, bG_n, bX_l, bX_r, ck_nI, nI_clamp, nI_leT, nI_leF, nI_ltT, nI_ltF, nI_eqF, nI_add, pk_mul, ofN, bt_e, or0, Nat.zero_add, Nat.add_zero, ↓reduceIte, if_true, if_false, Bool.false_eq_true, eq_self, li0, li1, li2, li3, li4, li5, li6, li7, li8, li9, li10, li11, li12, li14, li15, li16, li18, li19, li20, li23, li24, li25, li26, li27, li30, li31, li32, li36, li40, li41, li42, li43, li44, li45, li47, li48, li57, li59, li60, li91, li93, li96, li97, li100, li105, li122, li150, li200, li255, li400, li500, li600, li999, li1000, li1001, li2000, li2001, li2002, li2003, li2004, li2005, li2006, li32767, li100000, li_neg, li13, li17, li21, li22, li28, li29, li33, li34, li35, li37, li38, li39, li46, li49, li50, li51, li52, li53, li63, li80, li115, li160]
    | succ d ih =>
      intro i u N hi hu hN
      obtain ⟨u, rfl⟩ : ∃ v, u = v + 1 := ⟨u - 1, by omega⟩
      obtain ⟨N', e2, p2⟩ := hN.step hb hr (by omega)
      obtain ⟨q1, q2⟩ := sc_n (m := m) (show i < 105 by omega)
      rw [q1, q2] at e2 p2
      obtain ⟨N3, e3, p3⟩ := ih (i + 1) u _ (by omega) (by omega) p2
      refine ⟨N3, ?_, p3⟩
      rw [← e3]
      simp (disch := omega) only [f_M_putsAll_b, e2, bI_s, bV_s, bL_s, bR_s, bG_s, bG_n, bX_l, bX_r, ck_nI, nI_clamp, nI_leT, nI_leF, nI_ltT, nI_ltF, nI_eqF, nI_add, pk_mul, ofN, bt_e, or0, Nat.zero_add, Nat.add_zero, ↓reduceIte, if_true, if_false, Bool.false_eq_true, eq_self, li0, li1, li2, li3, li4, li5, li6, li7, li8, li9, li10, li11, li12, li14, li15, li16, li18, li19, li20, li23, li24, li25, li26, li27, li30, li31, li32, li36, li40, li41, li42, li43, li44, li45, li47, li48, li57, li59, li60, li91, li93, li96, li97, li100, li105, li122, li150, li200, li255, li400, li500, li600, li999, li1000, li1001, li2000, li2001, li2002, li2003, li2004, li2005, li2006, li32767, li100000, li_neg, li13, li17, li21, li22, li28, li29, li33, li34, li35, li37, li38, li39, li46, li49, li50, li51, li52, li53, li63, li80, li115, li160]
  obtain ⟨N3, e3, p3⟩ := first 105 0 FU _ (by omega) (FU_lt (by omega)) p1
  refine ⟨N3, ?_, p3⟩
  rw [← e3]
  simp (disch := omega) only [f_M_putsAll, e1, bI_s, bV_s, bL_s, bR_s, bG_s, bG_n, bX_l, bX_r, ck_nI, nI_clamp, nI_leT, nI_leF, nI_ltT, nI_ltF, nI_eqF, nI_add, pk_mul, ofN, bt_e, or0, Nat.zero_add, Nat.add_zero, ↓reduceIte, if_true, if_false, Bool.false_eq_true, eq_self, li0, li1, li2, li3, li4, li5, li6, li7, li8, li9, li10, li11, li12, li14, li15, li16, li18, li19, li20, li23, li24, li25, li26, li27, li30, li31, li32, li36, li40, li41, li42, li43, li44, li45, li47, li48, li57, li59, li60, li91, li93, li96, li97, li100, li105, li122, li150, li200, li255, li400, li500, li600, li999, li1000, li1001, li2000, li2001, li2002, li2003, li2004, li2005, li2006, li32767, li100000, li_neg, li13, li17, li21, li22, li28, li29, li33, li34, li35, li37, li38, li39, li46, li49, li50, li51, li52, li53, li63, li80, li115, li160]
theorem M_puts0 (hr : m + 490 ≤ r ∧ r < m + 493) : ∃ N, f_M_putsAll m r 1786 (nI 0) M = some N ∧ (∀ s, s < 1786 → gI N r s = gI M (sc m s) (sj s)) ∧ (∀ a i, a ≠ r → ¬ (a = m ∧ i = 41) → gI N a i = gI M a i) ∧ Fr (rg m 499) M N := by
  obtain ⟨N, e, ⟨h1, h2⟩, h3, h4, h5⟩ := M_putsAll (bk := 0) (M := M) (by omega) hr
  have z : ∀ s, s < 1786 → gI (sI M m 41 (nI 0)) (sc m s) (sj s) = gI M (sc m s) (sj s) := fun s hs => gI_ne (by have := sc_b (m := m) hs; omega)
  refine ⟨N, e, fun s hs => ?_, fun a i ha hb => ?_, ((Fr.rf (rg m 499) M).sI ⟨by omega, by omega⟩).trans h2⟩
  · rw [h3 s hs, if_pos hs]; exact z s hs
  · by_cases c : ∃ s, s < 1786 ∧ a = sc m s ∧ i = sj s
    · obtain ⟨s, hs, rfl, rfl⟩ := c
      rw [h4 s hs, if_pos hs]; exact z s hs
    · rw [h5 a i (fun z => ha z.1) hb (fun s hs z => c ⟨s, hs, z⟩)]; exact gI_ne (by omega)
theorem M_puts1 (hr : m + 490 ≤ r ∧ r < m + 493) : ∃ N, f_M_putsAll m r 1786 (nI 1) M = some N ∧ (∀ s, s < 1786 → gI N (sc m s) (sj s) = gI M r s) ∧ (∀ a i, ¬ (a = m ∧ i = 41) → (∀ s, s < 1786 → ¬ (a = sc m s ∧ i = sj s)) → gI N a i = gI M a i) ∧ Fr (rg m 499) M N := by
  obtain ⟨N, e, ⟨h1, h2⟩, h3, h4, h5⟩ := M_putsAll (bk := 1) (M := M) (by omega) hr
  refine ⟨N, e, fun s hs => ?_, fun a i hb hc => ?_, ((Fr.rf (rg m 499) M).sI ⟨by omega, by omega⟩).trans h2⟩
  · rw [h4 s hs, if_pos hs]
    show gI (sI M m 41 (nI 0)) r s = _
    rw [gI_ne (by omega)]
  · by_cases c : a = r ∧ i < 1786
    · rw [c.1, h3 i c.2, if_pos c.2]
      show gI (sI M m 41 (nI 0)) r i = _
      rw [gI_ne (by omega)]
    · rw [h5 a i c hb hc]; exact gI_ne (by omega)
end
