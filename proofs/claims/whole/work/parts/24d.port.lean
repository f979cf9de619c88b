/-! # functional level, 52: what a clause puts into the class's port, 2 -/
section
variable {M M' M1 M2 N : Mm} {t m E a k f n s p : Nat} {T : Nat → Nat} {Q : TT}
theorem C_addWriter (h : CTp M t T E a 0 f) (hQ : isP M p Q) (hn : Q 0 5 < 6) {v w : Nat} : ∃ M', f_Port_addWriter p t (nI v) (nI w) M = some M' ∧ FX (pD p) M M' ∧ isP M' p (qWri Q v w) := by
  have ef := C_fine h
  rw [if_pos rfl] at ef
  obtain ⟨⟨q1, q2, q3⟩, q4, q5, q6, q7⟩ := hQ
  have r0 : qWri Q v w 0 5 = Q 0 5 + 1 := up_s ..
  have ro : ∀ a b, ¬ (a = 0 ∧ b = 5) → ¬ (4 ≤ a ∧ a ≤ 6 ∧ b = Q 0 5) → qWri Q v w a b = Q a b := fun a b h1 h2 => by unfold qWri; rw [up_n (by omega), up_n (by omega), up_n (by omega), up_n (by omega)]
  have r4 : qWri Q v w 4 (Q 0 5) = v := by unfold qWri; rw [up_n (by omega), up_n (by omega), up_n (by omega), up_s]
  have r5 : qWri Q v w 5 (Q 0 5) = w := by unfold qWri; rw [up_n (by omega), up_n (by omega), up_s]
  have r6 : qWri Q v w 6 (Q 0 5) = 0 := by unfold qWri; rw [up_n (by omega), up_s]
  refine ⟨sI (sI (sI (sI M (p + 4) (Q 0 5) (nI v)) (p + 5) (Q 0 5) (nI w)) (p + 6) (Q 0 5) (nI 0)) p 5 (nI (Q 0 5 + 1)), ?_, ((((FX.rf _ M).sI (by unfold pD; omega)).sI (by unfold pD; omega)).sI (by unfold pD; omega)).sI (by unfold pD; omega), ⟨?_, ?_, ?_⟩, fun k hk => ?_, fun k hk => ⟨?_, ?_⟩, fun k hk => ⟨?_, ?_, ?_⟩, fun k hk => ?_⟩
  · simp (disch := omega) only [f_Port_addWriter, ef, q3, bI_s, bV_s, bL_s, bR_s, bG_s, bG_n, bX_l, bX_r, ck_nI, nI_clamp, nI_leT, nI_leF, nI_ltT, nI_ltF, nI_eqF, nI_add, pk_mul, ofN, bt_e, or0, Nat.zero_add, Nat.add_zero, ↓reduceIte, if_true, if_false, Bool.false_eq_true, eq_self, li0, li1, li2, li3, li4, li5, li6, li7, li8, li9, li10, li11, li12, li14, li15, li16, li18, li19, li20, li23, li24, li25, li26, li27, li30, li31, li32, li36, li40, li41, li42, li43, li44, li45, li47, li48, li57, li59, li60, li91, li93, li96, li97, li100, li105, li122, li150, li200, li255, li400, li500, li600, li999, li1000, li1001, li2000, li2001, li2002, li2003, li2004, li2005, li2006, li32767, li100000, li_neg, li13, li17, li21, li22, li28, li29, li33, li34, li35, li37, li38, li39, li46, li49, li50, li51, li52, li53, li63, li80, li115, li160, gI_same, gI_ne, gI_eq2, gR_sI, gL_sI, gI_sL, gR_sL, gI_sR, gL_sR]
  · rw [ro 0 0 (by omega) (by omega), gI_ne (by omega), gI_ne (by omega), gI_ne (by omega), gI_ne (by omega)]; exact q1
  · rw [ro 0 2 (by omega) (by omega), gI_ne (by omega), gI_ne (by omega), gI_ne (by omega), gI_ne (by omega)]; exact q2
  · rw [r0, gI_same]
  · rw [ro 0 0 (by omega) (by omega)] at hk
    rw [ro 1 k (by omega) (by omega), gI_ne (by omega), gI_ne (by omega), gI_ne (by omega), gI_ne (by omega)]; exact q4 k hk
  · rw [ro 0 2 (by omega) (by omega)] at hk
    rw [ro 2 k (by omega) (by omega), gI_ne (by omega), gI_ne (by omega), gI_ne (by omega), gI_ne (by omega)]; exact (q5 k hk).1
  · rw [ro 0 2 (by omega) (by omega)] at hk
    rw [ro 3 k (by omega) (by omega), gI_ne (by omega), gI_ne (by omega), gI_ne (by omega), gI_ne (by omega)]; exact (q5 k hk).2
  · rw [r0] at hk
    rw [gI_ne (by omega), gI_ne (by omega), gI_ne (by omega)]
    by_cases c : k = Q 0 5
    · rw [c, r4, gI_same]
    · rw [ro 4 k (by omega) (by omega), gI_ne (by omega)]; exact (q6 k (by omega)).1
  · rw [r0] at hk
    rw [gI_ne (by omega), gI_ne (by omega)]
    by_cases c : k = Q 0 5
    · rw [c, r5, gI_same]
    · rw [ro 5 k (by omega) (by omega), gI_ne (by omega), gI_ne (by omega)]; exact (q6 k (by omega)).2.1
  · rw [r0] at hk
    rw [gI_ne (by omega)]
    by_cases c : k = Q 0 5
    · rw [c, r6, gI_same]
    · rw [ro 6 k (by omega) (by omega), gI_ne (by omega), gI_ne (by omega), gI_ne (by omega)]; exact (q6 k (by omega)).2.2
  · rw [ro 7 k (by omega) (by omega), gI_ne (by omega), gI_ne (by omega), gI_ne (by omega), gI_ne (by omega)]; exact q7 k hk
/-- one cell of a port changed -/
theorem isP_6 (hQ : isP M p Q) {v x : Nat} : isP (sI M (p + 6) v (nI x)) p (up Q 6 v x) := by
  obtain ⟨⟨q1, q2, q3⟩, q4, q5, q6, q7⟩ := hQ
  refine ⟨⟨?_, ?_, ?_⟩, fun k hk => ?_, fun k hk => ⟨?_, ?_⟩, fun k hk => ⟨?_, ?_, ?_⟩, fun k hk => ?_⟩
  · rw [up_n (by omega), gI_ne (by omega)]; exact q1
  · rw [up_n (by omega), gI_ne (by omega)]; exact q2
  · rw [up_n (by omega), gI_ne (by omega)]; exact q3
  · rw [up_n (by omega)] at hk; rw [up_n (by omega), gI_ne (by omega)]; exact q4 k hk
  · rw [up_n (by omega)] at hk; rw [up_n (by omega), gI_ne (by omega)]; exact (q5 k hk).1
  · rw [up_n (by omega)] at hk; rw [up_n (by omega), gI_ne (by omega)]; exact (q5 k hk).2
  · rw [up_n (by omega)] at hk; rw [up_n (by omega), gI_ne (by omega)]; exact (q6 k hk).1
  · rw [up_n (by omega)] at hk; rw [up_n (by omega), gI_ne (by omega)]; exact (q6 k hk).2.1
  · rw [up_n (by omega)] at hk
    by_cases c : k = v
    · rw [c, up_s, gI_same]
    · rw [up_n (by omega), gI_ne (by omega)]; exact (q6 k hk).2.2
  · rw [up_n (by omega), gI_ne (by omega)]; exact q7 k hk
theorem isP_7 (hQ : isP M p Q) {v x : Nat} : isP (sI M (p + 7) v (nI x)) p (up Q 7 v x) := by
  obtain ⟨⟨q1, q2, q3⟩, q4, q5, q6, q7⟩ := hQ
  refine ⟨⟨?_, ?_, ?_⟩, fun k hk => ?_, fun k hk => ⟨?_, ?_⟩, fun k hk => ⟨?_, ?_, ?_⟩, fun k hk => ?_⟩
  · rw [up_n (by omega), gI_ne (by omega)]; exact q1
  · rw [up_n (by omega), gI_ne (by omega)]; exact q2
  · rw [up_n (by omega), gI_ne (by omega)]; exact q3
  · rw [up_n (by omega)] at hk; rw [up_n (by omega), gI_ne (by omega)]; exact q4 k hk
  · rw [up_n (by omega)] at hk; rw [up_n (by omega), gI_ne (by omega)]; exact (q5 k hk).1
  · rw [up_n (by omega)] at hk; rw [up_n (by omega), gI_ne (by omega)]; exact (q5 k hk).2
  · rw [up_n (by omega)] at hk; rw [up_n (by omega), gI_ne (by omega)]; exact (q6 k hk).1
  · rw [up_n (by omega)] at hk; rw [up_n (by omega), gI_ne (by omega)]; exact (q6 k hk).2.1
  · rw [up_n (by omega)] at hk; rw [up_n (by omega), gI_ne (by omega)]; exact (q6 k hk).2.2
  · by_cases c : k = v
    · rw [c, up_s, gI_same]
    · rw [up_n (by omega), gI_ne (by omega)]; exact q7 k hk
theorem nI_orbt {x b : Nat} (hx : x < 256) (hb : b < 8) : nI x ||| bt b = nI (x ||| 2 ^ b) := by
  have key : ∀ x, x < 256 → ∀ b, b < 8 → nI x ||| nI (2 ^ b) = nI (x ||| 2 ^ b) := by decide +kernel
  rw [bt_nI (by omega)]
  exact key x hx b hb
theorem C_addKnown (h : CTp M t T E a 0 f) (hQ : isP M p Q) {v w : Nat} (hv : v < Q 0 5) (h6 : Q 0 5 ≤ 6) (hx : Q 6 v < 256) (hw : w < 8) : ∃ M', f_Port_addKnown p t (nI v) (nI w) M = some M' ∧ FX (pD p) M M' ∧ isP M' p (qKno Q v w) := by
  have ef := C_fine h
  rw [if_pos rfl] at ef
  have e6 := hQ.kn hv
  refine ⟨sI M (p + 6) v (nI (Q 6 v ||| 2 ^ w)), ?_, (FX.rf _ M).sI (by unfold pD; omega), isP_6 hQ⟩
  have z := nI_orbt hx hw
  simp (disch := omega) only [f_Port_addKnown, ef, e6, z, bI_s, bV_s, bL_s, bR_s, bG_s, bG_n, bX_l, bX_r, ck_nI, nI_clamp, nI_leT, nI_leF, nI_ltT, nI_ltF, nI_eqF, nI_add, pk_mul, ofN, bt_e, or0, Nat.zero_add, Nat.add_zero, ↓reduceIte, if_true, if_false, Bool.false_eq_true, eq_self, li0, li1, li2, li3, li4, li5, li6, li7, li8, li9, li10, li11, li12, li14, li15, li16, li18, li19, li20, li23, li24, li25, li26, li27, li30, li31, li32, li36, li40, li41, li42, li43, li44, li45, li47, li48, li57, li59, li60, li91, li93, li96, li97, li100, li105, li122, li150, li200, li255, li400, li500, li600, li999, li1000, li1001, li2000, li2001, li2002, li2003, li2004, li2005, li2006, li32767, li100000, li_neg, li13, li17, li21, li22, li28, li29, li33, li34, li35, li37, li38, li39, li46, li49, li50, li51, li52, li53, li63, li80, li115, li160]
end
