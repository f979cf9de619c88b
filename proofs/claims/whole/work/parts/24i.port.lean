/-! # functional level, 57: the model reads what a clause tells, 2 -/
section
variable {M M' M1 M2 N : Mm} {t m E a k f n s p : Nat} {T : Nat → Nat} {Q : TT} {p0 p1 p2 p3 : Int32}
theorem M_twoS (h : MTp M m T E a 0 f) (hp : p1 < nI 100000) (hp3 : p3 < nI 100000) {x j : Nat} (hx : m + 1 < x) : ∃ z1 z2 M1 M2, f_M_number m p0 p1 M = some (z1, M1) ∧ f_M_number m p2 p3 (sI M1 x j z1) = some (z2, M2) ∧ FX (uD m) M M1 ∧ FX (uD m) (sI M1 x j z1) M2 ∧ ((n2k T E a p0 p1 p2 p3 = 0 ∧ z1 = nI (nV T E a) ∧ z2 = nI (nV T E (nE T E a)) ∧ MTp M2 m T E (nE T E (nE T E a)) 0 f) ∨ (n2k T E a p0 p1 p2 p3 ≠ 0 ∧ ∃ a', MTp M2 m T E a' (n2k T E a p0 p1 p2 p3) (n2f T E a p0 p1))) := by
  obtain ⟨z1, M1, e1, f1, h1, hz1⟩ := M_number (p0 := p0) (p1 := p1) h hp
  have fx : FX (fun a _ => a = x) M1 (sI M1 x j z1) := (FX.rf _ M1).sI rfl
  have h1 := h1.fx fx (fun j q => by omega) (fun j q => by omega)
  by_cases c1 : nK T E a p0 p1 = 0
  · have ek : n2k T E a p0 p1 p2 p3 = nK T E (nE T E a) p2 p3 := if_neg (fun q => q c1)
    have ef : n2f T E a p0 p1 = sk T E (nE T E a) := if_neg (fun q => q c1)
    have hz1 := hz1 (by rw [nO_0 c1])
    rw [nO_0 c1] at h1
    obtain ⟨z2, M2, e2, f2, h2, hz2⟩ := M_number (p0 := p2) (p1 := p3) h1 hp3
    refine ⟨z1, z2, M1, M2, e1, e2, f1, f2, ?_⟩
    rw [ek, ef]
    have h3 : MTp M2 m T E (nE T E (nE T E a)) (nO 0 f T E (nE T E a) p2 p3).1 (nO 0 f T E (nE T E a) p2 p3).2 := h2
    have hz3 : (nO 0 f T E (nE T E a) p2 p3).1 = 0 → z2 = nI (nV T E (nE T E a)) := hz2
    by_cases c2 : nK T E (nE T E a) p2 p3 = 0
    · rw [nO_0 c2] at h3 hz3
      exact Or.inl ⟨c2, hz1, hz3 rfl, h3⟩
    · rw [nO_1 c2] at h3
      exact Or.inr ⟨c2, _, h3⟩
  · have ek : n2k T E a p0 p1 p2 p3 = nK T E a p0 p1 := if_pos c1
    have ef : n2f T E a p0 p1 = sk T E a := if_pos c1
    rw [nO_1 c1] at h1
    refine ⟨z1, nI 0, M1, _, e1, M_numberF h1 c1, f1, FX.rf _ _, ?_⟩
    rw [ek, ef]
    exact Or.inr ⟨c1, _, h1⟩
theorem isQr.mv (hQ : isQr M m Q) (e : ∀ x j, m < x → gI N x j = gI M x j) : isQr N m Q := by
  obtain ⟨⟨q1, q2, q3⟩, q4, q5, q6, q7, q8⟩ := hQ
  refine ⟨⟨?_, ?_, ?_⟩, fun k hk => ?_, fun k hk => ⟨?_, ?_⟩, fun k hk => ⟨?_, ?_⟩, fun k hk => ?_, fun k hk => ?_⟩
  · rw [e _ _ (by omega)]; exact q1
  · rw [e _ _ (by omega)]; exact q2
  · rw [e _ _ (by omega)]; exact q3
  · rw [e _ _ (by omega)]; exact q4 k hk
  · rw [e _ _ (by omega)]; exact (q5 k hk).1
  · rw [e _ _ (by omega)]; exact (q5 k hk).2
  · rw [e _ _ (by omega)]; exact (q6 k hk).1
  · rw [e _ _ (by omega)]; exact (q6 k hk).2
  · rw [e _ _ (by omega)]; exact q7 k hk
  · rw [e _ _ (by omega)]; exact q8 k hk
theorem n2k_3 : n2k T E a p0 p1 p2 p3 ≤ 3 := by
  unfold n2k
  split
  · exact nK_3
  · exact nK_3
theorem M_told1 (h : MTp M m T E a 0 4294967295) (hQ : isQr M m Q) (oQ : okP Q) (hn : Q 0 2 < 8) : ∃ M', f_M_clause_d m (nI 1) (nI (Q 0 2)) M = f_M_clause_g m (nI 1) (nI (Q 0 2)) M' ∧ FX (upD m) M M' ∧ oRm M' m E T (oT T E a 1 Q) := by
  obtain ⟨z1, z2, M1, M2, e1, e2, f1, f2, hc⟩ := M_twoS (p0 := nI 0) (p1 := nI 9) (p2 := nI 1) (p3 := nI 15) h (by decide) (by decide) (x := m + 11 + 1 + Q 0 2) (j := 0) (by omega)
  have hr := oQ.r
  have hw := oQ.w
  have g3 : gI (sI M2 (m + 11 + 1 + Q 0 2) 1 z2) (m + 3) 1 = nI (Q 0 2) := by
    rw [gI_ne (Or.inl (by omega)), f2.2.1 _ _ (by unfold uD; omega), gI_ne (Or.inl (by omega)), f1.2.1 _ _ (by unfold uD; omega)]; exact hQ.1.2.1
  have g5 : gI (sI M2 (m + 11 + 1 + Q 0 2) 1 z2) m 5 = gI M2 m 5 := gI_ne (Or.inl (by omega))
  have fs : FX (fun a _ => prD m a) M1 (sI M1 (m + 11 + 1 + Q 0 2) 0 z1) := (FX.rf _ M1).sI (by unfold prD; omega)
  have ft : ∀ v, FX (fun a _ => prD m a) M2 (sI (sI M2 (m + 11 + 1 + Q 0 2) 1 z2) (m + 3) 1 v) := fun v => ((FX.rf _ M2).sI (by unfold prD; omega)).sI (by unfold prD; omega)
  have fall : ∀ v, FX (upD m) M (sI (sI M2 (m + 11 + 1 + Q 0 2) 1 z2) (m + 3) 1 v) := fun v => (((f1.mono (fun _ _ q => Or.inl q)).trans (fs.mono (fun _ _ q => Or.inr q))).trans (f2.mono (fun _ _ q => Or.inl q))).trans ((ft v).mono (fun _ _ q => Or.inr q))
  rcases hc with ⟨c, y1, y2, h2⟩ | ⟨c, a', h2⟩
  · have g4 := h2.1.2.2.1
    rw [g4] at g5
    have eo : oT T E a 1 Q = (0, 4294967295, nE T E (nE T E a), qBid Q (nV T E a) (nV T E (nE T E a))) := (if_neg (by omega)).trans ((if_pos rfl).trans (if_neg (fun q => q c)))
    rw [eo]
    refine ⟨sI (sI M2 (m + 11 + 1 + Q 0 2) 1 z2) (m + 3) 1 (nI (Q 0 2 + 1)), ?_, fall _, Or.inl ⟨rfl, h2.fx (ft _) (fun j q => by unfold prD at q; omega) (fun j q => by unfold prD at q; omega), ?_⟩⟩
    · simp (disch := omega) only [f_M_clause_d, f_M_clause_f, e1, e2, g5, g3, bI_s, bV_s, bL_s, bR_s, bG_s, bG_n, bX_l, bX_r, ck_nI, nI_clamp, nI_leT, nI_leF, nI_ltT, nI_ltF, nI_eqF, nI_add, pk_mul, ofN, bt_e, or0, Nat.zero_add, Nat.add_zero, ↓reduceIte, if_true, if_false, Bool.false_eq_true, eq_self, li0, li1, li2, li3, li4, li5, li6, li7, li8, li9, li10, li11, li12, li14, li15, li16, li18, li19, li20, li23, li24, li25, li26, li27, li30, li31, li32, li36, li40, li41, li42, li43, li44, li45, li47, li48, li57, li59, li60, li91, li93, li96, li97, li100, li105, li122, li150, li200, li255, li400, li500, li600, li999, li1000, li1001, li2000, li2001, li2002, li2003, li2004, li2005, li2006, li32767, li100000, li_neg, li13, li17, li21, li22, li28, li29, li33, li34, li35, li37, li38, li39, li46, li49, li50, li51, li52, li53, li63, li80, li115, li160]
    · have key : ∀ x j, m < x → ¬ (x = m + 3 ∧ j = 1) → ¬ (x = m + 11 + 1 + Q 0 2 ∧ j ≤ 1) → gI (sI (sI M2 (m + 11 + 1 + Q 0 2) 1 z2) (m + 3) 1 (nI (Q 0 2 + 1))) x j = gI M x j := fun x j q1 q2 q3 => by
        rw [gI_ne (by omega), gI_ne (by omega), f2.2.1 _ _ (by unfold uD; omega), gI_ne (by omega), f1.2.1 _ _ (by unfold uD; omega)]
      have k1 : gI (sI (sI M2 (m + 11 + 1 + Q 0 2) 1 z2) (m + 3) 1 (nI (Q 0 2 + 1))) (m + 11 + 1 + Q 0 2) 0 = z1 := by
        rw [gI_ne (by omega), gI_ne (by omega), f2.2.1 _ _ (by unfold uD; omega), gI_same]
      have k2 : gI (sI (sI M2 (m + 11 + 1 + Q 0 2) 1 z2) (m + 3) 1 (nI (Q 0 2 + 1))) (m + 11 + 1 + Q 0 2) 1 = z2 := by
        rw [gI_ne (by omega), gI_same]
      show isQr (sI (sI M2 (m + 11 + 1 + Q 0 2) 1 z2) (m + 3) 1 (nI (Q 0 2 + 1))) m (qBid Q (nV T E a) (nV T E (nE T E a)))
      generalize nV T E a = v at y1 ⊢
      generalize nV T E (nE T E a) = w at y2 ⊢
      obtain ⟨⟨q1, q2, q3⟩, q4, q5, q6, q7, q8⟩ := hQ
      have r0 : qBid Q v w 0 2 = Q 0 2 + 1 := up_s ..
      have ro : ∀ a b, ¬ (a = 0 ∧ b = 2) → ¬ (a = 2 ∧ b = Q 0 2) → ¬ (a = 3 ∧ b = Q 0 2) → qBid Q v w a b = Q a b := fun a b h1 h2 h3 => by unfold qBid; rw [up_n (by omega), up_n (by omega), up_n (by omega)]
      have r2 : qBid Q v w 2 (Q 0 2) = v := by unfold qBid; rw [up_n (by omega), up_n (by omega), up_s]
      have r3 : qBid Q v w 3 (Q 0 2) = w := by unfold qBid; rw [up_n (by omega), up_s]
      refine ⟨⟨?_, ?_, ?_⟩, fun k hk => ?_, fun k hk => ⟨?_, ?_⟩, fun k hk => ⟨?_, ?_⟩, fun k hk => ?_, fun k hk => ?_⟩
      · rw [ro 0 0 (by omega) (by omega) (by omega), key _ _ (by omega) (by omega) (by omega)]; exact q1
      · rw [r0, gI_same]
      · rw [ro 0 5 (by omega) (by omega) (by omega), key _ _ (by omega) (by omega) (by omega)]; exact q3
      · rw [ro 0 0 (by omega) (by omega) (by omega)] at hk
        rw [ro 1 k (by omega) (by omega) (by omega), key _ _ (by omega) (by omega) (by omega)]; exact q4 k hk
      · rw [r0] at hk
        by_cases c : k = Q 0 2
        · rw [c, r2, k1]; exact y1
        · rw [ro 2 k (by omega) (by omega) (by omega), key _ _ (by omega) (by omega) (by omega)]; exact (q5 k (by omega)).1
      · rw [r0] at hk
        by_cases c : k = Q 0 2
        · rw [c, r3, k2]; exact y2
        · rw [ro 3 k (by omega) (by omega) (by omega), key _ _ (by omega) (by omega) (by omega)]; exact (q5 k (by omega)).2
      · rw [ro 0 5 (by omega) (by omega) (by omega)] at hk
        rw [ro 4 k (by omega) (by omega) (by omega), key _ _ (by omega) (by omega) (by omega)]; exact (q6 k hk).1
      · rw [ro 0 5 (by omega) (by omega) (by omega)] at hk
        rw [ro 5 k (by omega) (by omega) (by omega), key _ _ (by omega) (by omega) (by omega)]; exact (q6 k hk).2
      · rw [ro 0 5 (by omega) (by omega) (by omega), ro 6 k (by omega) (by omega) (by omega), key _ _ (by omega) (by omega) (by omega)]; exact q7 k hk
      · rw [ro 7 k (by omega) (by omega) (by omega), key _ _ (by omega) (by omega) (by omega)]; exact q8 k hk
  · have g4 := h2.1.2.2.1
    rw [g4] at g5
    have n3 := n2k_3 (T := T) (E := E) (a := a) (p0 := nI 0) (p1 := nI 9) (p2 := nI 1) (p3 := nI 15)
    have eo : oT T E a 1 Q = (n2k T E a (nI 0) (nI 9) (nI 1) (nI 15), n2f T E a (nI 0) (nI 9), 0, Q) := (if_neg (by omega)).trans ((if_pos rfl).trans (if_pos c))
    rw [eo]
    refine ⟨sI (sI M2 (m + 11 + 1 + Q 0 2) 1 z2) (m + 3) 1 (nI (Q 0 2 + 0)), ?_, fall _, Or.inr ⟨c, _, h2.fx (ft _) (fun j q => by unfold prD at q; omega) (fun j q => by unfold prD at q; omega)⟩⟩
    simp (disch := omega) only [f_M_clause_d, f_M_clause_f, e1, e2, g5, g3, bI_s, bV_s, bL_s, bR_s, bG_s, bG_n, bX_l, bX_r, ck_nI, nI_clamp, nI_leT, nI_leF, nI_ltT, nI_ltF, nI_eqF, nI_add, pk_mul, ofN, bt_e, or0, Nat.zero_add, Nat.add_zero, ↓reduceIte, if_true, if_false, Bool.false_eq_true, eq_self, li0, li1, li2, li3, li4, li5, li6, li7, li8, li9, li10, li11, li12, li14, li15, li16, li18, li19, li20, li23, li24, li25, li26, li27, li30, li31, li32, li36, li40, li41, li42, li43, li44, li45, li47, li48, li57, li59, li60, li91, li93, li96, li97, li100, li105, li122, li150, li200, li255, li400, li500, li600, li999, li1000, li1001, li2000, li2001, li2002, li2003, li2004, li2005, li2006, li32767, li100000, li_neg, li13, li17, li21, li22, li28, li29, li33, li34, li35, li37, li38, li39, li46, li49, li50, li51, li52, li53, li63, li80, li115, li160]
theorem M_told3 (h : MTp M m T E a 0 4294967295) (hQ : isQr M m Q) (oQ : okP Q) (hn : Q 0 5 < 6) : ∃ M', f_M_clause_d m (nI 2) (nI (Q 0 5)) M = f_M_clause_g m (nI 2) (nI (Q 0 5)) M' ∧ FX (upD m) M M' ∧ oRm M' m E T (oT T E a 3 Q) := by
  obtain ⟨z1, z2, M1, M2, e1, e2, f1, f2, hc⟩ := M_twoS (p0 := nI 0) (p1 := nI 3) (p2 := nI 1) (p3 := nI 60) h (by decide) (by decide) (x := m + 29 + 1 + Q 0 5) (j := 0) (by omega)
  have hr := oQ.r
  have hb := oQ.b
  have g3 : gI (sI M2 (m + 29 + 1 + Q 0 5) 1 z2) (m + 3) 2 = nI (Q 0 5) := by
    rw [gI_ne (Or.inl (by omega)), f2.2.1 _ _ (by unfold uD; omega), gI_ne (Or.inl (by omega)), f1.2.1 _ _ (by unfold uD; omega)]; exact hQ.1.2.2
  have g5 : gI (sI M2 (m + 29 + 1 + Q 0 5) 1 z2) m 5 = gI M2 m 5 := gI_ne (Or.inl (by omega))
  have fs : FX (fun a _ => prD m a) M1 (sI M1 (m + 29 + 1 + Q 0 5) 0 z1) := (FX.rf _ M1).sI (by unfold prD; omega)
  have ft : ∀ v, FX (fun a _ => prD m a) M2 (sI (sI M2 (m + 29 + 1 + Q 0 5) 1 z2) (m + 3) 2 v) := fun v => ((FX.rf _ M2).sI (by unfold prD; omega)).sI (by unfold prD; omega)
  have fall : ∀ v, FX (upD m) M (sI (sI M2 (m + 29 + 1 + Q 0 5) 1 z2) (m + 3) 2 v) := fun v => (((f1.mono (fun _ _ q => Or.inl q)).trans (fs.mono (fun _ _ q => Or.inr q))).trans (f2.mono (fun _ _ q => Or.inl q))).trans ((ft v).mono (fun _ _ q => Or.inr q))
  rcases hc with ⟨c, y1, y2, h2⟩ | ⟨c, a', h2⟩
  · have g4 := h2.1.2.2.1
    rw [g4] at g5
    have eo : oT T E a 3 Q = (0, 4294967295, nE T E (nE T E a), qWri Q (nV T E a) (nV T E (nE T E a))) := (if_neg (by omega)).trans ((if_neg (by omega)).trans ((if_pos rfl).trans (if_neg (fun q => q c))))
    rw [eo]
    refine ⟨sI (sI M2 (m + 29 + 1 + Q 0 5) 1 z2) (m + 3) 2 (nI (Q 0 5 + 1)), ?_, fall _, Or.inl ⟨rfl, h2.fx (ft _) (fun j q => by unfold prD at q; omega) (fun j q => by unfold prD at q; omega), ?_⟩⟩
    · simp (disch := omega) only [f_M_clause_d, f_M_clause_f, e1, e2, g5, g3, bI_s, bV_s, bL_s, bR_s, bG_s, bG_n, bX_l, bX_r, ck_nI, nI_clamp, nI_leT, nI_leF, nI_ltT, nI_ltF, nI_eqF, nI_add, pk_mul, ofN, bt_e, or0, Nat.zero_add, Nat.add_zero, ↓reduceIte, if_true, if_false, Bool.false_eq_true, eq_self, li0, li1, li2, li3, li4, li5, li6, li7, li8, li9, li10, li11, li12, li14, li15, li16, li18, li19, li20, li23, li24, li25, li26, li27, li30, li31, li32, li36, li40, li41, li42, li43, li44, li45, li47, li48, li57, li59, li60, li91, li93, li96, li97, li100, li105, li122, li150, li200, li255, li400, li500, li600, li999, li1000, li1001, li2000, li2001, li2002, li2003, li2004, li2005, li2006, li32767, li100000, li_neg, li13, li17, li21, li22, li28, li29, li33, li34, li35, li37, li38, li39, li46, li49, li50, li51, li52, li53, li63, li80, li115, li160]
    · have key : ∀ x j, m < x → ¬ (x = m + 3 ∧ j = 2) → ¬ (x = m + 29 + 1 + Q 0 5 ∧ j ≤ 1) → gI (sI (sI M2 (m + 29 + 1 + Q 0 5) 1 z2) (m + 3) 2 (nI (Q 0 5 + 1))) x j = gI M x j := fun x j q1 q2 q3 => by
        rw [gI_ne (by omega), gI_ne (by omega), f2.2.1 _ _ (by unfold uD; omega), gI_ne (by omega), f1.2.1 _ _ (by unfold uD; omega)]
      have k1 : gI (sI (sI M2 (m + 29 + 1 + Q 0 5) 1 z2) (m + 3) 2 (nI (Q 0 5 + 1))) (m + 29 + 1 + Q 0 5) 0 = z1 := by
        rw [gI_ne (by omega), gI_ne (by omega), f2.2.1 _ _ (by unfold uD; omega), gI_same]
      have k2 : gI (sI (sI M2 (m + 29 + 1 + Q 0 5) 1 z2) (m + 3) 2 (nI (Q 0 5 + 1))) (m + 29 + 1 + Q 0 5) 1 = z2 := by
        rw [gI_ne (by omega), gI_same]
      show isQr (sI (sI M2 (m + 29 + 1 + Q 0 5) 1 z2) (m + 3) 2 (nI (Q 0 5 + 1))) m (qWri Q (nV T E a) (nV T E (nE T E a)))
      generalize nV T E a = v at y1 ⊢
      generalize nV T E (nE T E a) = w at y2 ⊢
      obtain ⟨⟨q1, q2, q3⟩, q4, q5, q6, q7, q8⟩ := hQ
      have r0 : qWri Q v w 0 5 = Q 0 5 + 1 := up_s ..
      have ro : ∀ a b, ¬ (a = 0 ∧ b = 5) → ¬ ((a = 4 ∨ a = 5 ∨ a = 6) ∧ b = Q 0 5) → qWri Q v w a b = Q a b := fun a b h1 h2 => by unfold qWri; rw [up_n (by omega), up_n (by omega), up_n (by omega), up_n (by omega)]
      have r4 : qWri Q v w 4 (Q 0 5) = v := by unfold qWri; rw [up_n (by omega), up_n (by omega), up_n (by omega), up_s]
      have r5 : qWri Q v w 5 (Q 0 5) = w := by unfold qWri; rw [up_n (by omega), up_n (by omega), up_s]
      have r6 : qWri Q v w 6 (Q 0 5) = 0 := by unfold qWri; rw [up_n (by omega), up_s]
      refine ⟨⟨?_, ?_, ?_⟩, fun k hk => ?_, fun k hk => ⟨?_, ?_⟩, fun k hk => ⟨?_, ?_⟩, fun k hk => ?_, fun k hk => ?_⟩
      · rw [ro 0 0 (by omega) (by omega), key _ _ (by omega) (by omega) (by omega)]; exact q1
      · rw [ro 0 2 (by omega) (by omega), key _ _ (by omega) (by omega) (by omega)]; exact q2
      · rw [r0, gI_same]
      · rw [ro 0 0 (by omega) (by omega)] at hk
        rw [ro 1 k (by omega) (by omega), key _ _ (by omega) (by omega) (by omega)]; exact q4 k hk
      · rw [ro 0 2 (by omega) (by omega)] at hk
        rw [ro 2 k (by omega) (by omega), key _ _ (by omega) (by omega) (by omega)]; exact (q5 k hk).1
      · rw [ro 0 2 (by omega) (by omega)] at hk
        rw [ro 3 k (by omega) (by omega), key _ _ (by omega) (by omega) (by omega)]; exact (q5 k hk).2
      · rw [r0] at hk
        by_cases c : k = Q 0 5
        · rw [c, r4, k1]; exact y1
        · rw [ro 4 k (by omega) (by omega), key _ _ (by omega) (by omega) (by omega)]; exact (q6 k (by omega)).1
      · rw [r0] at hk
        by_cases c : k = Q 0 5
        · rw [c, r5, k2]; exact y2
        · rw [ro 5 k (by omega) (by omega), key _ _ (by omega) (by omega) (by omega)]; exact (q6 k (by omega)).2
      · have q9 := q7 k hk
        rw [r0, key _ _ (by omega) (by omega) (by omega), q9]
        by_cases c : k = Q 0 5
        · rw [c, r6, if_neg (by omega), if_pos (by omega)]
        · rw [ro 6 k (by omega) (by omega)]
          by_cases c2 : k < Q 0 5
          · rw [if_pos c2, if_pos (by omega)]
          · rw [if_neg c2, if_neg (by omega)]
      · rw [ro 7 k (by omega) (by omega), key _ _ (by omega) (by omega) (by omega)]; exact q8 k hk
  · have g4 := h2.1.2.2.1
    rw [g4] at g5
    have n3 := n2k_3 (T := T) (E := E) (a := a) (p0 := nI 0) (p1 := nI 3) (p2 := nI 1) (p3 := nI 60)
    have eo : oT T E a 3 Q = (n2k T E a (nI 0) (nI 3) (nI 1) (nI 60), n2f T E a (nI 0) (nI 3), 0, Q) := (if_neg (by omega)).trans ((if_neg (by omega)).trans ((if_pos rfl).trans (if_pos c)))
    rw [eo]
    refine ⟨sI (sI M2 (m + 29 + 1 + Q 0 5) 1 z2) (m + 3) 2 (nI (Q 0 5 + 0)), ?_, fall _, Or.inr ⟨c, _, h2.fx (ft _) (fun j q => by unfold prD at q; omega) (fun j q => by unfold prD at q; omega)⟩⟩
    simp (disch := omega) only [f_M_clause_d, f_M_clause_f, e1, e2, g5, g3, bI_s, bV_s, bL_s, bR_s, bG_s, bG_n, bX_l, bX_r, ck_nI, nI_clamp, nI_leT, nI_leF, nI_ltT, nI_ltF, nI_eqF, nI_add, pk_mul, ofN, bt_e, or0, Nat.zero_add, Nat.add_zero, ↓reduceIte, if_true, if_false, Bool.false_eq_true, eq_self, li0, li1, li2, li3, li4, li5, li6, li7, li8, li9, li10, li11, li12, li14, li15, li16, li18, li19, li20, li23, li24, li25, li26, li27, li30, li31, li32, li36, li40, li41, li42, li43, li44, li45, li47, li48, li57, li59, li60, li91, li93, li96, li97, li100, li105, li122, li150, li200, li255, li400, li500, li600, li999, li1000, li1001, li2000, li2001, li2002, li2003, li2004, li2005, li2006, li32767, li100000, li_neg, li13, li17, li21, li22, li28, li29, li33, li34, li35, li37, li38, li39, li46, li49, li50, li51, li52, li53, li63, li80, li115, li160]
end
