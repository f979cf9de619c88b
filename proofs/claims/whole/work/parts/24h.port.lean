/-! # functional level, 56: the model reads what a clause tells -/
section
variable {M M' M1 M2 N : Mm} {t m E a k f n s p : Nat} {T : Nat → Nat} {Q : TT}
/-- the port that the model reads -/
def isQr (M : Mm) (m : Nat) (Q : TT) : Prop := (gI M (m + 3) 0 = nI (Q 0 0) ∧ gI M (m + 3) 1 = nI (Q 0 2) ∧ gI M (m + 3) 2 = nI (Q 0 5)) ∧ (∀ k, k < Q 0 0 → gI M (m + 5) k = nI (Q 1 k)) ∧ (∀ k, k < Q 0 2 → gI M (m + 11 + 1 + k) 0 = nI (Q 2 k) ∧ gI M (m + 11 + 1 + k) 1 = nI (Q 3 k)) ∧ (∀ k, k < Q 0 5 → gI M (m + 29 + 1 + k) 0 = nI (Q 4 k) ∧ gI M (m + 29 + 1 + k) 1 = nI (Q 5 k)) ∧ (∀ k, k < 6 → gI M (m + 9) k = nI (if k < Q 0 5 then Q 6 k else 0)) ∧ ∀ k, k < 10 → gI M (m + 7) k = nI (Q 7 k)
def prD (m a : Nat) : Prop := a = m + 3 ∨ a = m + 5 ∨ a = m + 7 ∨ a = m + 9 ∨ (m + 12 ≤ a ∧ a < m + 20) ∨ (m + 30 ≤ a ∧ a < m + 36)
def upD (m a j : Nat) : Prop := uD m a j ∨ prD m a
def oRm (M : Mm) (m E : Nat) (T : Nat → Nat) (r : Nat × Nat × Nat × TT) : Prop := (r.1 = 0 ∧ MTp M m T E r.2.2.1 0 4294967295 ∧ isQr M m r.2.2.2) ∨ (r.1 ≠ 0 ∧ ∃ a', MTp M m T E a' r.1 r.2.1)
theorem isQr.ud (hQ : isQr M m Q) (oQ : okP Q) (g : FX (uD m) M N) : isQr N m Q := by
  obtain ⟨⟨q1, q2, q3⟩, q4, q5, q6, q7, q8⟩ := hQ
  have e : ∀ x j, m < x → gI N x j = gI M x j := fun x j hx => g.2.1 x j (by unfold uD; omega)
  refine ⟨⟨?_, ?_, ?_⟩, fun k hk => ?_, fun k hk => ⟨?_, ?_⟩, fun k hk => ⟨?_, ?_⟩, fun k hk => ?_, fun k hk => ?_⟩
  · rw [e _ _ (by omega)]; exact q1
  · rw [e _ _ (by omega)]; exact q2
  · rw [e _ _ (by omega)]; exact q3
  · rw [e _ _ (by omega)]; exact q4 k hk
  · rw [e _ _ (by omega)]; exact (q5 k hk).1
  · rw [e _ _ (by omega)]; exact (q5 k hk).2
  · rw [e _ _ (by omega)]; exact (q6 k hk).1
  · rw [e _ _ (by omega)]; exact (q6 k hk).2
  · rw [e _ _ (by omega)]; exact q7 k hk
  · rw [e _ _ (by omega)]; exact q8 k hk
theorem M_told0 (h : MTp M m T E a 0 4294967295) (hQ : isQr M m Q) (oQ : okP Q) (hn : Q 0 0 < 4) : ∃ M', f_M_clause_d m (nI 0) (nI (Q 0 0)) M = f_M_clause_g m (nI 0) (nI (Q 0 0)) M' ∧ FX (upD m) M M' ∧ oRm M' m E T (oT T E a 0 Q) := by
  obtain ⟨z, M1, e1, f1, h1, hz⟩ := M_number (p0 := nI 1) (p1 := nI 30) h (by decide)
  have hQ1 := hQ.ud oQ f1
  have g3 := hQ1.1.1
  have hb := oQ.b
  have hw := oQ.w
  have f2 : ∀ x, FX (fun a _ => prD m a) M1 (sI (sI M1 (m + 5) (Q 0 0) z) (m + 3) 0 x) := fun x => ((FX.rf _ M1).sI (by unfold prD; omega)).sI (by unfold prD; omega)
  have g5 : gI (sI M1 (m + 5) (Q 0 0) z) m 5 = gI M1 m 5 := gI_ne (Or.inl (by omega))
  have g6 : gI (sI M1 (m + 5) (Q 0 0) z) (m + 3) 0 = nI (Q 0 0) := by rw [gI_ne (Or.inl (by omega))]; exact g3
  have g4 := h1.1.2.2.1
  have hE1 := h1.2.2.1
  by_cases c : nK T E a (nI 1) (nI 30) = 0
  · have hz := hz (by rw [nO_0 c])
    rw [nO_0 c] at h1 g4
    dsimp only at g4
    rw [g4] at g5
    have eo : oT T E a 0 Q = (0, 4294967295, nE T E a, qRow Q (nV T E a)) := (if_pos rfl).trans (if_neg (fun q => q c))
    rw [eo]
    have hz : z = nI (nV T E a) := hz
    refine ⟨sI (sI M1 (m + 5) (Q 0 0) z) (m + 3) 0 (nI (Q 0 0 + 1)), ?_, (f1.mono (fun _ _ q => Or.inl q)).trans ((f2 _).mono (fun _ _ q => Or.inr q)), Or.inl ⟨rfl, h1.fx (f2 _) (fun j q => by unfold prD at q; omega) (fun j q => by unfold prD at q; omega), ?_⟩⟩
    · simp (disch := omega) only [f_M_clause_d, f_M_clause_f, e1, g5, g6, bI_s, bV_s, bL_s, bR_s, bG_s, bG_n, bX_l, bX_r, ck_nI, nI_clamp, nI_leT, nI_leF, nI_ltT, nI_ltF, nI_eqF, nI_add, pk_mul, ofN, bt_e, or0, Nat.zero_add, Nat.add_zero, ↓reduceIte, if_true, if_false, Bool.false_eq_true, eq_self, li0, li1, li2, li3, li4, li5, li6, li7, li8, li9, li10, li11, li12, li14, li15, li16, li18, li19, li20, li23, li24, li25, li26, li27, li30, li31, li32, li36, li40, li41, li42, li43, li44, li45, li47, li48, li57, li59, li60, li91, li93, li96, li97, li100, li105, li122, li150, li200, li255, li400, li500, li600, li999, li1000, li1001, li2000, li2001, li2002, li2003, li2004, li2005, li2006, li32767, li100000, li_neg, li13, li17, li21, li22, li28, li29, li33, li34, li35, li37, li38, li39, li46, li49, li50, li51, li52, li53, li63, li80, li115, li160]
    · show isQr (sI (sI M1 (m + 5) (Q 0 0) z) (m + 3) 0 (nI (Q 0 0 + 1))) m (qRow Q (nV T E a))
      obtain ⟨⟨q1, q2, q3⟩, q4, q5, q6, q7, q8⟩ := hQ1
      have r0 : qRow Q (nV T E a) 0 0 = Q 0 0 + 1 := up_s ..
      have ro : ∀ x b, ¬ (x = 0 ∧ b = 0) → ¬ (x = 1 ∧ b = Q 0 0) → qRow Q (nV T E a) x b = Q x b := fun x b h1 h2 => by unfold qRow; rw [up_n (by omega), up_n (by omega)]
      have r1 : qRow Q (nV T E a) 1 (Q 0 0) = nV T E a := by unfold qRow; rw [up_n (by omega), up_s]
      refine ⟨⟨?_, ?_, ?_⟩, fun k hk => ?_, fun k hk => ⟨?_, ?_⟩, fun k hk => ⟨?_, ?_⟩, fun k hk => ?_, fun k hk => ?_⟩
      · rw [r0, gI_same]
      · rw [ro 0 2 (by omega) (by omega), gI_ne (by omega), gI_ne (by omega)]; exact q2
      · rw [ro 0 5 (by omega) (by omega), gI_ne (by omega), gI_ne (by omega)]; exact q3
      · rw [r0] at hk
        rw [gI_ne (by omega)]
        by_cases c : k = Q 0 0
        · rw [c, r1, gI_same]; exact hz
        · rw [ro 1 k (by omega) (by omega), gI_ne (by omega)]; exact q4 k (by omega)
      · rw [ro 0 2 (by omega) (by omega)] at hk
        rw [ro 2 k (by omega) (by omega), gI_ne (by omega), gI_ne (by omega)]; exact (q5 k hk).1
      · rw [ro 0 2 (by omega) (by omega)] at hk
        rw [ro 3 k (by omega) (by omega), gI_ne (by omega), gI_ne (by omega)]; exact (q5 k hk).2
      · rw [ro 0 5 (by omega) (by omega)] at hk
        rw [ro 4 k (by omega) (by omega), gI_ne (by omega), gI_ne (by omega)]; exact (q6 k hk).1
      · rw [ro 0 5 (by omega) (by omega)] at hk
        rw [ro 5 k (by omega) (by omega), gI_ne (by omega), gI_ne (by omega)]; exact (q6 k hk).2
      · rw [ro 0 5 (by omega) (by omega), ro 6 k (by omega) (by omega), gI_ne (by omega), gI_ne (by omega)]; exact q7 k hk
      · rw [ro 7 k (by omega) (by omega), gI_ne (by omega), gI_ne (by omega)]; exact q8 k hk
  · rw [nO_1 c] at h1 g4
    dsimp only at g4
    rw [g4] at g5
    have n3 := nK_3 (T := T) (E := E) (a := a) (p0 := nI 1) (p1 := nI 30)
    have eo : oT T E a 0 Q = (nK T E a (nI 1) (nI 30), sk T E a, 0, Q) := (if_pos rfl).trans (if_pos c)
    rw [eo]
    refine ⟨sI (sI M1 (m + 5) (Q 0 0) z) (m + 3) 0 (nI (Q 0 0 + 0)), ?_, (f1.mono (fun _ _ q => Or.inl q)).trans ((f2 _).mono (fun _ _ q => Or.inr q)), Or.inr ⟨c, _, h1.fx (f2 _) (fun j q => by unfold prD at q; omega) (fun j q => by unfold prD at q; omega)⟩⟩
    simp (disch := omega) only [f_M_clause_d, f_M_clause_f, e1, g5, g6, bI_s, bV_s, bL_s, bR_s, bG_s, bG_n, bX_l, bX_r, ck_nI, nI_clamp, nI_leT, nI_leF, nI_ltT, nI_ltF, nI_eqF, nI_add, pk_mul, ofN, bt_e, or0, Nat.zero_add, Nat.add_zero, ↓reduceIte, if_true, if_false, Bool.false_eq_true, eq_self, li0, li1, li2, li3, li4, li5, li6, li7, li8, li9, li10, li11, li12, li14, li15, li16, li18, li19, li20, li23, li24, li25, li26, li27, li30, li31, li32, li36, li40, li41, li42, li43, li44, li45, li47, li48, li57, li59, li60, li91, li93, li96, li97, li100, li105, li122, li150, li200, li255, li400, li500, li600, li999, li1000, li1001, li2000, li2001, li2002, li2003, li2004, li2005, li2006, li32767, li100000, li_neg, li13, li17, li21, li22, li28, li29, li33, li34, li35, li37, li38, li39, li46, li49, li50, li51, li52, li53, li63, li80, li115, li160]
end
