/-! # functional level, 51: what a clause puts into the class's port -/
section
variable {M M' M1 M2 N : Mm} {t m E a k f n s p : Nat} {T : Nat → Nat} {Q : TT}
def pD (p a j : Nat) : Prop := p ≤ a ∧ a < p + 8
theorem C_addRow (h : CTp M t T E a 0 f) (hQ : isP M p Q) (hn : Q 0 0 < 4) {v : Nat} : ∃ M', f_Port_addRow p t (nI v) M = some M' ∧ FX (pD p) M M' ∧ isP M' p (qRow Q v) := by
  have ef := C_fine h
  rw [if_pos rfl] at ef
  obtain ⟨⟨q1, q2, q3⟩, q4, q5, q6, q7⟩ := hQ
  have r0 : qRow Q v 0 0 = Q 0 0 + 1 := up_s ..
  have ro : ∀ a b, ¬ (a = 0 ∧ b = 0) → ¬ (a = 1 ∧ b = Q 0 0) → qRow Q v a b = Q a b := fun a b h1 h2 => by unfold qRow; rw [up_n (by omega), up_n (by omega)]
  have r1 : qRow Q v 1 (Q 0 0) = v := by unfold qRow; rw [up_n (by omega), up_s]
  refine ⟨sI (sI M (p + 1) (Q 0 0) (nI v)) p 0 (nI (Q 0 0 + 1)), ?_, ((FX.rf _ M).sI (by unfold pD; omega)).sI (by unfold pD; omega), ⟨?_, ?_, ?_⟩, fun k hk => ?_, fun k hk => ⟨?_, ?_⟩, fun k hk => ⟨?_, ?_, ?_⟩, fun k hk => ?_⟩
  · simp (disch := omega) only [f_Port_addRow, ef, q1, bI_s, bV_s, bL_s, bR_s, bG_s, bG_n, bX_l, bX_r, ck_nI, nI_clamp, nI_leT, nI_leF, nI_ltT, nI_ltF, nI_eqF, nI_add, pk_mul, ofN, bt_e, or0, Nat.zero_add, Nat.add_zero, ↓reduceIte, if_true, if_false, Bool.false_eq_true, eq_self, li0, li1, li2, li3, li4, li5, li6, li7, li8, li9, li10, li11, li12, li14, li15, li16, li18, li19, li20, li23, li24, li25, li26, li27, li30, li31, li32, li36, li40, li41, li42, li43, li44, li45, li47, li48, li57, li59, li60, li91, li93, li96, li97, li100, li105, li122, li150, li200, li255, li400, li500, li600, li999, li1000, li1001, li2000, li2001, li2002, li2003, li2004, li2005, li2006, li32767, li100000, li_neg, li13, li17, li21, li22, li28, li29, li33, li34, li35, li37, li38, li39, li46, li49, li50, li51, li52, li53, li63, li80, li115, li160, gI_same, gI_ne, gI_eq2, gR_sI, gL_sI, gI_sL, gR_sL, gI_sR, gL_sR]
  · rw [r0, gI_same]
  · rw [ro 0 2 (by omega) (by omega), gI_ne (by omega), gI_ne (by omega)]; exact q2
  · rw [ro 0 5 (by omega) (by omega), gI_ne (by omega), gI_ne (by omega)]; exact q3
  · rw [r0] at hk
    rw [gI_ne (by omega)]
    by_cases c : k = Q 0 0
    · rw [c, r1, gI_same]
    · rw [ro 1 k (by omega) (by omega), gI_ne (by omega)]; exact q4 k (by omega)
  · rw [ro 0 2 (by omega) (by omega)] at hk
    rw [ro 2 k (by omega) (by omega), gI_ne (by omega), gI_ne (by omega)]; exact (q5 k hk).1
  · rw [ro 0 2 (by omega) (by omega)] at hk
    rw [ro 3 k (by omega) (by omega), gI_ne (by omega), gI_ne (by omega)]; exact (q5 k hk).2
  · rw [ro 0 5 (by omega) (by omega)] at hk
    rw [ro 4 k (by omega) (by omega), gI_ne (by omega), gI_ne (by omega)]; exact (q6 k hk).1
  · rw [ro 0 5 (by omega) (by omega)] at hk
    rw [ro 5 k (by omega) (by omega), gI_ne (by omega), gI_ne (by omega)]; exact (q6 k hk).2.1
  · rw [ro 0 5 (by omega) (by omega)] at hk
    rw [ro 6 k (by omega) (by omega), gI_ne (by omega), gI_ne (by omega)]; exact (q6 k hk).2.2
  · rw [ro 7 k (by omega) (by omega), gI_ne (by omega), gI_ne (by omega)]; exact q7 k hk
theorem C_addBid (h : CTp M t T E a 0 f) (hQ : isP M p Q) (hn : Q 0 2 < 8) {v w : Nat} : ∃ M', f_Port_addBid p t (nI v) (nI w) M = some M' ∧ FX (pD p) M M' ∧ isP M' p (qBid Q v w) := by
  have ef := C_fine h
  rw [if_pos rfl] at ef
  obtain ⟨⟨q1, q2, q3⟩, q4, q5, q6, q7⟩ := hQ
  have r0 : qBid Q v w 0 2 = Q 0 2 + 1 := up_s ..
  have ro : ∀ a b, ¬ (a = 0 ∧ b = 2) → ¬ (a = 2 ∧ b = Q 0 2) → ¬ (a = 3 ∧ b = Q 0 2) → qBid Q v w a b = Q a b := fun a b h1 h2 h3 => by unfold qBid; rw [up_n (by omega), up_n (by omega), up_n (by omega)]
  have r2 : qBid Q v w 2 (Q 0 2) = v := by unfold qBid; rw [up_n (by omega), up_n (by omega), up_s]
  have r3 : qBid Q v w 3 (Q 0 2) = w := by unfold qBid; rw [up_n (by omega), up_s]
  refine ⟨sI (sI (sI M (p + 2) (Q 0 2) (nI v)) (p + 3) (Q 0 2) (nI w)) p 2 (nI (Q 0 2 + 1)), ?_, (((FX.rf _ M).sI (by unfold pD; omega)).sI (by unfold pD; omega)).sI (by unfold pD; omega), ⟨?_, ?_, ?_⟩, fun k hk => ?_, fun k hk => ⟨?_, ?_⟩, fun k hk => ⟨?_, ?_, ?_⟩, fun k hk => ?_⟩
  · simp (disch := omega) only [f_Port_addBid, ef, q2, bI_s, bV_s, bL_s, bR_s, bG_s, bG_n, bX_l, bX_r, ck_nI, nI_clamp, nI_leT, nI_leF, nI_ltT, nI_ltF, nI_eqF, nI_add, pk_mul, ofN, bt_e, or0, Nat.zero_add, Nat.add_zero, ↓reduceIte, if_true, if_false, Bool.false_eq_true, eq_self, li0, li1, li2, li3, li4, li5, li6, li7, li8, li9, li10, li11, li12, li14, li15, li16, li18, li19, li20, li23, li24, li25, li26, li27, li30, li31, li32, li36, li40, li41, li42, li43, li44, li45, li47, li48, li57, li59, li60, li91, li93, li96, li97, li100, li105, li122, li150, li200, li255, li400, li500, li600, li999, li1000, li1001, li2000, li2001, li2002, li2003, li2004, li2005, li2006, li32767, li100000, li_neg, li13, li17, li21, li22, li28, li29, li33, li34, li35, li37, li38, li39, li46, li49, li50, li51, li52, li53, li63, li80, li115, li160, gI_same, gI_ne, gI_eq2, gR_sI, gL_sI, gI_sL, gR_sL, gI_sR, gL_sR]
  · rw [ro 0 0 (by omega) (by omega) (by omega), gI_ne (by omega), gI_ne (by omega), gI_ne (by omega)]; exact q1
  · rw [r0, gI_same]
  · rw [ro 0 5 (by omega) (by omega) (by omega), gI_ne (by omega), gI_ne (by omega), gI_ne (by omega)]; exact q3
  · rw [ro 0 0 (by omega) (by omega) (by omega)] at hk
    rw [ro 1 k (by omega) (by omega) (by omega), gI_ne (by omega), gI_ne (by omega), gI_ne (by omega)]; exact q4 k hk
  · rw [r0] at hk
    rw [gI_ne (by omega), gI_ne (by omega)]
    by_cases c : k = Q 0 2
    · rw [c, r2, gI_same]
    · rw [ro 2 k (by omega) (by omega) (by omega), gI_ne (by omega)]; exact (q5 k (by omega)).1
  · rw [r0] at hk
    rw [gI_ne (by omega)]
    by_cases c : k = Q 0 2
    · rw [c, r3, gI_same]
    · rw [ro 3 k (by omega) (by omega) (by omega), gI_ne (by omega), gI_ne (by omega)]; exact (q5 k (by omega)).2
  · rw [ro 0 5 (by omega) (by omega) (by omega)] at hk
    rw [ro 4 k (by omega) (by omega) (by omega), gI_ne (by omega), gI_ne (by omega), gI_ne (by omega)]; exact (q6 k hk).1
  · rw [ro 0 5 (by omega) (by omega) (by omega)] at hk
    rw [ro 5 k (by omega) (by omega) (by omega), gI_ne (by omega), gI_ne (by omega), gI_ne (by omega)]; exact (q6 k hk).2.1
  · rw [ro 0 5 (by omega) (by omega) (by omega)] at hk
    rw [ro 6 k (by omega) (by omega) (by omega), gI_ne (by omega), gI_ne (by omega), gI_ne (by omega)]; exact (q6 k hk).2.2
  · rw [ro 7 k (by omega) (by omega) (by omega), gI_ne (by omega), gI_ne (by omega), gI_ne (by omega)]; exact q7 k hk
end
