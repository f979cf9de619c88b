/-! # functional level, 63: port agrees -/
section
variable {M M' M1 M2 N : Mm} {o m p l d : Nat} {S : St} {P W X : TT} {V : Nat → TT} {I : Nat → Nat → TT}
/-- the rest of a state behind a port -/
def xP (X : TT) : TT := fun a b => if a = 0 then (if b = 3 ∨ b = 4 then X 0 b else if b = 1 then 4294967295 else 0) else X a b
theorem A_port (h : InvS o M S) (p0 : Int32) : Ag cd1 Int32.toInt64 o (fun k => k = 1) (f_C_port o p0 M) (fun M1 => f_M_port (o + 61) p0 M1) := by
  obtain ⟨P, W, X, V, I⟩ := S
  obtain ⟨p, l, d, hr, ⟨hP, hW⟩, ht, ⟨hL, hD⟩, hv, hi⟩ := id h.1
  dsimp only at hP hW ht hL hD hv hi
  have t1 := ht.1.1
  have t5 := ht.2.2.1.2.1
  have t6 := ht.2.2.1.2.2
  have hO := h.2.2.1
  have hn := h.2.2.2.1
  have hX6 : X 0 0 ≤ 600 := hO.2.1.1.1
  have hXb : ∀ k, k < X 0 0 → X 1 k < 256 := hO.2.1.1.2
  have hp := hr.1.1
  have hl := hr.1.2.1
  have hd := hr.1.2.2
  have hm1 : ∀ M1, MJ (sI M1 (o + 61) 0 (nI 0)) (o + 61) (P, W, X, V, I) → gI (sI M1 (o + 61) 0 (nI 0)) (o + 61) 1 = nI (X 0 0) := fun M1 hm => hm.2.1.1.1
  rcases wth p0 0 (X 0 0) (by omega) (by omega) with ⟨j, _, hj, rfl⟩ | ⟨w1, w2⟩
  · obtain ⟨pp, hpp⟩ : ∃ pp, pp = 2 * o + 82 - p := ⟨_, rfl⟩
    obtain ⟨N1, e1, f1, a1, h1⟩ := C_open (N := M) (t := o + 1) (T := X 1) (j := j) (by omega) (fun i hi => ht.2.1 i (by omega)) (fun i hi => hXb i (by omega))
    have g11 : gR N1 o 11 = some pp := by rw [f1.2.2.2, hpp]; exact hr.2.1.2
    obtain ⟨N2, e2, f2, hq2⟩ := C_clear (p := pp) N1
    have h2 := h1.fx f2 (fun j q => by unfold pD at q; omega) (fun j q => by unfold pD at q; omega)
    have key := C_pread (p := pp) (t := o + 1) (T := X 1) (E := j) (by omega) (j + 1) 0 0 q0 FU N2 h2 hq2 okq0 (by omega) (by omega) (by show 63 ≤ 10000 + 0; omega)
    have mkey : ∀ M1, MJ (sI M1 (o + 61) 0 (nI 0)) (o + 61) (P, W, X, V, I) → ∃ N3 N4 N5, f_M_starts (o + 61) (nI j) (sI M1 (o + 61) 0 (nI 0)) = some N3 ∧ f_M_tellsNothing (o + 61) N3 = some N4 ∧ f_M_port_c FU (o + 61) (nI j) N4 = f_M_port_d (o + 61) (nI j) N5 ∧ FX (fun a k => prD (o + 61) a ∨ (a = o + 61 ∧ (k = 1 ∨ k = 2 ∨ (4 ≤ k ∧ k ≤ 8)))) (sI M1 (o + 61) 0 (nI 0)) N5 ∧ gI N5 (o + 61) 1 = nI 0 ∧ oRm N5 (o + 61) j (X 1) (pz (X 1) j (j + 1) 0 0 q0) := by
      intro M1 hm
      obtain ⟨N3, q1, q2, q3, ⟨q4, _⟩, q5⟩ := M_starts (N := sI M1 (o + 61) 0 (nI 0)) (m := o + 61) (T := X 1) (j := j) (by omega) (fun i hi => hm.2.1.2.1 i (by show i < X 0 0; omega)) (fun i hi => hXb i (by omega))
      obtain ⟨N4, y1, y2, y3⟩ := M_tells (m := o + 61) N3
      obtain ⟨N5, y4, y5, y6⟩ := M_pread (m := o + 61) (T := X 1) (E := j) (p0 := nI j) (j + 1) 0 0 q0 FU N4 (by omega) (q5.fx y2 (fun j q => by unfold prD at q; omega) (fun j q => by unfold prD at q; omega)) (by rw [y2.2.1 _ _ (by unfold prD; omega)]; exact q4) y3 okq0 (by omega) (by omega) (by show j + 1 < 10000; omega)
      refine ⟨N3, N4, N5, q1, y1, y4, ((q2.mono (fun _ _ q => Or.inr q)).trans (y2.mono (fun _ _ q => Or.inl q))).trans (y5.mono (fun a k q => by unfold clD upD uD prD at q; unfold prD; omega)), ?_, y6⟩
      rw [y5.2.1 _ _ (by unfold clD upD uD prD; omega), y2.2.1 _ _ (by unfold prD; omega)]; exact q3
    generalize pz (X 1) j (j + 1) 0 0 q0 = r at key mkey
    obtain ⟨kk, ff, aa, Q⟩ := r
    dsimp only at key mkey
    obtain ⟨M3, e3, f3, h3, hok⟩ := key
    have e4 : f_Port_read pp (o + 1) N1 = some M3 := by
      show bV (f_Port_clear pp N1) _ = _
      rw [e2, bV_s]
      exact e3
    have f13 : FX (fun a k => (a = o + 1 ∧ 1 ≤ k) ∨ (pp ≤ a ∧ a < pp + 8)) M M3 := ((f1.mono (fun a k q => Or.inl ⟨q.1, q.2.1⟩)).trans (f2.mono (fun a k q => Or.inr q))).trans (f3.mono (fun a k q => by unfold tpD tD pD at q; show (a = o + 1 ∧ 1 ≤ k) ∨ (pp ≤ a ∧ a < pp + 8); omega))
    have a3 : gI M3 (o + 1) 1 = nI 0 := by rw [f3.2.1 _ _ (by unfold tpD tD pD; omega), f2.2.1 _ _ (by unfold pD; omega)]; exact a1
    rcases h3 with ⟨ck0, h4, hQ⟩ | ⟨ck0, a', h4⟩
    · dsimp only at ck0 h4 hQ
      have oQ := hok ck0
      have efine := C_fine h4
      rw [if_pos rfl] at efine
      have g10 : gR M3 o 10 = some p := by rw [f13.2.2.2]; exact hr.2.1.1
      have g11' : gR M3 o 11 = some pp := by rw [f13.2.2.2, hpp]; exact hr.2.1.2
      have sne : ∀ a k, ¬ (a = o ∧ (k = 10 ∨ k = 11)) → gR (sR (sR M3 o 10 (some pp)) o 11 (some p)) a k = gR M a k := fun a k q => by rw [gR_ne (by omega), gR_ne (by omega)]; exact f13.2.2.2 a k
      have s10 : gR (sR (sR M3 o 10 (some pp)) o 11 (some p)) o 10 = some pp := by rw [gR_ne (by omega), gR_same]
      have s11 : gR (sR (sR M3 o 10 (some pp)) o 11 (some p)) o 11 = some p := gR_same ..
      have g12 : gR (sR (sR M3 o 10 (some pp)) o 11 (some p)) o 12 = some l := by rw [sne _ _ (by omega)]; exact hr.2.2.1.1
      obtain ⟨M5, e5, f5, h5⟩ := C_plain (l := l) (sR (sR M3 o 10 (some pp)) o 11 (some p))
      have g14 : gR M5 o 14 = some d := by rw [f5.2.2.2, sne _ _ (by omega)]; exact hr.2.2.2.1
      have fr7 : Fr (fun a => a = o ∨ (l ≤ a ∧ a < l + 3) ∨ a = d ∨ a = o + 16) M3 (sI (sI (sI (sI M5 d 0 (nI 0)) d 1 (nI 0)) (o + 16) 1 (nI 0)) (o + 16) 3 (nI 0)) :=
        ((((((((Fr.rf _ M3).sR (by omega)).sR (by omega)).trans (f5.fr.mono (fun a q => by obtain ⟨_, q⟩ := q; omega))).sI (by omega)).sI (by omega)).sI (by omega)).sI (by omega))
      have hQ7 := hQ.fr fr7 (fun x h1 h2 q => by omega)
      have g10' : gR (sI (sI (sI (sI M5 d 0 (nI 0)) d 1 (nI 0)) (o + 16) 1 (nI 0)) (o + 16) 3 (nI 0)) o 10 = some pp := by
        show gR M5 o 10 = _
        rw [f5.2.2.2]; exact s10
      obtain ⟨M8, e8, f8, h8⟩ := C_begin (w := o + 8) hQ7 oQ (by omega)
      have R8 : ∀ k, gR (sI M8 o 16 (nI 0)) o k = gR (sR (sR M3 o 10 (some pp)) o 11 (some p)) o k := fun k => by
        show gR M8 o k = _
        rw [f8.r (by unfold rg; omega)]
        show gR M5 o k = _
        rw [f5.2.2.2]
      have fr9 : Fr (fun a => rg (o + 8) 8 a ∨ a = o) (sI (sI (sI (sI M5 d 0 (nI 0)) d 1 (nI 0)) (o + 16) 1 (nI 0)) (o + 16) 3 (nI 0)) (sI M8 o 16 (nI 0)) := (f8.mono (fun a q => Or.inl q)).sI (Or.inr rfl)
      have hQ9 := hQ7.fr fr9 (fun x h1 h2 q => by unfold rg at q; omega)
      have hW9 : isW (sI M8 o 16 (nI 0)) (o + 8) Q (wB Q) := h8.fr ((Fr.rf (fun a => a = o) M8).sI rfl) (fun x h1 h2 q => by omega)
      have s10' : gR (sI M8 o 16 (nI 0)) o 10 = some pp := (R8 10).trans s10
      have I7 : ∀ a k, ¬ ((a = d ∧ k ≤ 1) ∨ (a = o + 16 ∧ (k = 1 ∨ k = 3))) → gI (sI (sI (sI (sI M5 d 0 (nI 0)) d 1 (nI 0)) (o + 16) 1 (nI 0)) (o + 16) 3 (nI 0)) a k = gI M5 a k := fun a k q => by
        rw [gI_ne (by omega), gI_ne (by omega), gI_ne (by omega), gI_ne (by omega)]
      have I8 : ∀ a k, ¬ rg (o + 8) 8 a → ¬ (a = o ∧ k = 16) → gI (sI M8 o 16 (nI 0)) a k = gI (sI (sI (sI (sI M5 d 0 (nI 0)) d 1 (nI 0)) (o + 16) 1 (nI 0)) (o + 16) 3 (nI 0)) a k := fun a k q1 q2 => by
        rw [gI_ne (by omega), f8.i q1]
      have I9 : ∀ a k, ¬ rg (o + 8) 8 a → ¬ (a = o ∧ k = 16) → ¬ ((a = d ∧ k ≤ 1) ∨ (a = o + 16 ∧ (k = 1 ∨ k = 3))) → ¬ (l ≤ a ∧ a < l + 3) → gI (sI M8 o 16 (nI 0)) a k = gI M3 a k := fun a k q1 q2 q3 q4 => by
        rw [I8 a k q1 q2, I7 a k q3, f5.2.1 _ _ q4]; rfl
      have b2 := hQ9.b
      have nx9 : nx (sI M8 o 16 (nI 0)) = nx M ∧ kd (sI M8 o 16 (nI 0)) = kd M := ⟨fr9.1.1.trans (fr7.1.1.trans f13.1.1), fr9.1.2.trans (fr7.1.2.trans f13.1.2)⟩
      refine agW h (v := nI (Q 0 2)) (M' := sI M8 o 16 (nI 0)) (S' := (Q, wB Q, xP X, V, I)) ?_ ?_ ?_ ?_ (fun M1 hm => ?_)
      · simp (disch := omega) only [f_C_port, f_Deeds_clear, f_Past_clear, t1, C_inT, f_C_mustBe, e1, g11, e4, efine, g10, g11', g12, e5, g14, g10', e8, s10', b2, bI_s, bV_s, bL_s, bR_s, bG_s, bG_n, bX_l, bX_r, ck_nI, nI_clamp, nI_leT, nI_leF, nI_ltT, nI_ltF, nI_eqF, nI_add, pk_mul, ofN, bt_e, or0, Nat.zero_add, Nat.add_zero, ↓reduceIte, if_true, if_false, Bool.false_eq_true, eq_self, li0, li1, li2, li3, li4, li5, li6, li7, li8, li9, li10, li11, li12, li14, li15, li16, li18, li19, li20, li23, li24, li25, li26, li27, li30, li31, li32, li36, li40, li41, li42, li43, li44, li45, li47, li48, li57, li59, li60, li91, li93, li96, li97, li100, li105, li122, li150, li200, li255, li400, li500, li600, li999, li1000, li1001, li2000, li2001, li2002, li2003, li2004, li2005, li2006, li32767, li100000, li_neg, li13, li17, li21, li22, li28, li29, li33, li34, li35, li37, li38, li39, li46, li49, li50, li51, li52, li53, li63, li80, li115, li160]
      · refine ⟨pp, l, d, ⟨⟨by omega, hl, hd⟩, ⟨s10', ?_⟩, ⟨?_, ?_⟩, ?_, ?_⟩, ⟨hQ9, hW9⟩, ⟨⟨?_, ?_⟩, fun k q => ?_, ⟨?_, ?_, ?_⟩, ?_, ?_⟩, ⟨?_, ?_, ?_⟩, fun i q => ?_, fun i q => ?_⟩
        · rw [R8, s11]; congr 1; omega
        · rw [R8, sne _ _ (by omega)]; exact hr.2.2.1.1
        · rw [R8, sne _ _ (by omega)]; exact hr.2.2.1.2
        · rw [R8, sne _ _ (by omega)]; exact hr.2.2.2.1
        · rw [R8, sne _ _ (by omega)]; exact hr.2.2.2.2
        · rw [I9 _ _ (by unfold rg; omega) (by omega) (by omega) (by omega)]; exact a3
        · rw [I9 _ _ (by unfold rg; omega) (by omega) (by omega) (by omega)]; exact h4.1.2.2.2
        · exact absurd q (Nat.not_lt_zero k)
        · exact gI_same ..
        · rw [I9 _ _ (by unfold rg; omega) (by omega) (by omega) (by omega), f13.2.1 _ _ (by omega)]; exact t5
        · rw [I9 _ _ (by unfold rg; omega) (by omega) (by omega) (by omega), f13.2.1 _ _ (by omega)]; exact t6
        · rw [I8 _ _ (by unfold rg; omega) (by omega), gI_ne (by omega), gI_same]; rfl
        · rw [I8 _ _ (by unfold rg; omega) (by omega), gI_same]; rfl
        · show isLw (sI M8 o 16 (nI 0)) l 0 _
          unfold isLw
          rw [if_pos rfl]
          refine ⟨?_, fun k q => ?_⟩
          · rw [I8 _ _ (by unfold rg; omega) (by omega), I7 _ _ (by omega)]; exact h5.1
          · rw [I8 _ _ (by unfold rg; omega) (by omega), I7 _ _ (by omega)]; exact h5.2 k q
        · rw [I8 _ _ (by unfold rg; omega) (by omega), gI_ne (by omega), gI_ne (by omega), gI_ne (by omega), gI_same]; rfl
        · rw [I8 _ _ (by unfold rg; omega) (by omega), gI_ne (by omega), gI_ne (by omega), gI_same]; rfl
        · exact absurd q (Nat.not_lt_zero i)
        · exact absurd q (Nat.not_lt_zero i)
      · exact ⟨⟨oQ, okwB oQ⟩, ⟨⟨Nat.zero_le _, fun k q => absurd q (Nat.not_lt_zero k)⟩, Nat.zero_le _, fun k q => absurd q (Nat.not_lt_zero k)⟩, ⟨Nat.zero_le _, fun k q => absurd q (Nat.not_lt_zero k), fun i k _ q => absurd q (Nat.not_lt_zero k)⟩, ⟨Nat.zero_le _, fun k q => absurd q (Nat.not_lt_zero k)⟩, Nat.zero_le _, fun k q => absurd q (Nat.not_lt_zero k)⟩
      · refine ⟨⟨by rw [nx9.1]; exact Nat.le_refl _, fun a ha => by rw [nx9.2]; exact h.2.2.2.2 a (by rw [nx9.1] at ha; exact ha)⟩, fun a k h1 h2 => ?_⟩
        rw [I9 _ _ (by unfold rg; omega) (by omega) (by omega) (by omega), f13.2.1 _ _ (by omega)]
      · obtain ⟨N3, N4, N5, y1, y2, y3, y4, y5, y6⟩ := mkey M1 hm
        rcases y6 with ⟨_, z1, z2⟩ | ⟨q, _⟩
        · dsimp only at z1 z2
          have z5 := z1.1.2.2.1
          have em := hm1 M1 hm
          have z3 : isQr (sI N5 (o + 61) 3 (nI 4294967295)) (o + 61) Q := z2.mv (fun x j q => gI_ne (Or.inl (by omega)))
          obtain ⟨N6, x1, ⟨x2, x3⟩, ⟨x4, x5⟩, ⟨x6, x7, x8⟩, x9, x10⟩ := M_begin z3 oQ
          have bq := x4.b
          have i6 : ∀ a k, ¬ bgD (o + 61) a → a ≠ o + 61 → gI N6 a k = gI N5 a k := fun a k q1 q2 => by rw [x2.i (fun q => by rcases q with q | q; exact q1 q; exact q2 q), gI_ne (by omega)]
          refine ⟨N6, ?_, ?_, ⟨⟨x4, x5⟩, ⟨⟨?_, ?_⟩, fun k q => ?_, ⟨x9, ?_, ?_⟩, x8, x10⟩, ⟨⟨x6, fun k q => ?_⟩, x7, fun k q => ?_⟩, fun i q => ?_, fun i q => ?_⟩, ⟨⟨x2.1.1.trans y4.1.1, x2.1.2.trans y4.1.2⟩, fun a k q => ?_, fun a k q => ?_, fun a k q => ?_⟩⟩
          · have ey : f_M_port_d (o + 61) (nI j) N5 = some (nI (Q 0 2), N6) := by
              simp (disch := omega) only [f_M_port_d, z5, x1, bq, bI_s, bV_s, bL_s, bR_s, bG_s, bG_n, bX_l, bX_r, ck_nI, nI_clamp, nI_leT, nI_leF, nI_ltT, nI_ltF, nI_eqF, nI_add, pk_mul, ofN, bt_e, or0, Nat.zero_add, Nat.add_zero, ↓reduceIte, if_true, if_false, Bool.false_eq_true, eq_self, li0, li1, li2, li3, li4, li5, li6, li7, li8, li9, li10, li11, li12, li14, li15, li16, li18, li19, li20, li23, li24, li25, li26, li27, li30, li31, li32, li36, li40, li41, li42, li43, li44, li45, li47, li48, li57, li59, li60, li91, li93, li96, li97, li100, li105, li122, li150, li200, li255, li400, li500, li600, li999, li1000, li1001, li2000, li2001, li2002, li2003, li2004, li2005, li2006, li32767, li100000, li_neg, li13, li17, li21, li22, li28, li29, li33, li34, li35, li37, li38, li39, li46, li49, li50, li51, li52, li53, li63, li80, li115, li160]
            simp (disch := omega) only [f_M_port, f_M_port_b, em, M_inT, hm.b0, y1, y2, y3, ey, bI_s, bV_s, bL_s, bR_s, bG_s, bG_n, bX_l, bX_r, ck_nI, nI_clamp, nI_leT, nI_leF, nI_ltT, nI_ltF, nI_eqF, nI_add, pk_mul, ofN, bt_e, or0, Nat.zero_add, Nat.add_zero, ↓reduceIte, if_true, if_false, Bool.false_eq_true, eq_self, li0, li1, li2, li3, li4, li5, li6, li7, li8, li9, li10, li11, li12, li14, li15, li16, li18, li19, li20, li23, li24, li25, li26, li27, li30, li31, li32, li36, li40, li41, li42, li43, li44, li45, li47, li48, li57, li59, li60, li91, li93, li96, li97, li100, li105, li122, li150, li200, li255, li400, li500, li600, li999, li1000, li1001, li2000, li2001, li2002, li2003, li2004, li2005, li2006, li32767, li100000, li_neg, li13, li17, li21, li22, li28, li29, li33, li34, li35, li37, li38, li39, li46, li49, li50, li51, li52, li53, li63, li80, li115, li160]
          · rw [x3 _ (by omega), gI_ne (by omega), y4.2.1 _ _ (by unfold prD; omega)]; exact gI_same ..
          · rw [x3 _ (by omega), gI_ne (by omega)]; exact y5
          · rw [x3 _ (by omega), gI_same]; rfl
          · exact absurd q (Nat.not_lt_zero k)
          · rw [i6 _ _ (by unfold bgD qrg; omega) (by omega), y4.2.1 _ _ (by unfold prD; omega)]; exact hm.2.1.2.2.1.2.1
          · rw [i6 _ _ (by unfold bgD qrg; omega) (by omega), y4.2.1 _ _ (by unfold prD; omega)]; exact hm.2.1.2.2.1.2.2
          · exact absurd q (Nat.not_lt_zero k)
          · exact absurd q (Nat.not_lt_zero k)
          · exact absurd q (Nat.not_lt_zero i)
          · exact absurd q (Nat.not_lt_zero i)
          · rw [i6 _ _ (by unfold bgD qrg; omega) (by omega), y4.2.1 _ _ (by unfold prD; omega)]
          · rw [x2.l (by unfold bgD qrg; omega)]; exact y4.2.2.1 a k
          · rw [x2.r (by unfold bgD qrg; omega)]; exact y4.2.2.2 a k
        · exact absurd ck0 q
    · dsimp only at ck0 h4
      have efine := C_fine h4
      rw [if_neg ck0] at efine
      have g4 := h4.1.2.2.1
      have g5 := h4.1.2.2.2
      have ex : eqx (fun a => a = o + 1 ∨ (pp ≤ a ∧ a < pp + 8)) M M3 := ⟨by rw [f13.1.1]; exact Nat.le_refl _, fun a _ q => ⟨fun k => f13.2.1 a k (by omega), fun k => f13.2.2.2 a k⟩⟩
      have hFC : FC o M M3 := ⟨⟨by rw [f13.1.1]; exact Nat.le_refl _, fun a ha => by rw [f13.1.2]; exact h.2.2.2.2 a (by rw [f13.1.1] at ha; exact ha)⟩, fun a k h1 h2 => f13.2.1 a k (by omega)⟩
      refine agW h (v := nI kk - nI 10) (M' := M3) (S' := (P, W, xE X ff, V, I)) ?_ ?_ ?_ hFC (fun M1 hm => ?_)
      · simp (disch := omega) only [f_C_port, t1, C_inT, f_C_mustBe, e1, g11, e4, efine, f_Tape_faultAnswer, g4, bI_s, bV_s, bL_s, bR_s, bG_s, bG_n, bX_l, bX_r, ck_nI, nI_clamp, nI_leT, nI_leF, nI_ltT, nI_ltF, nI_eqF, nI_add, pk_mul, ofN, bt_e, or0, Nat.zero_add, Nat.add_zero, ↓reduceIte, if_true, if_false, Bool.false_eq_true, eq_self, li0, li1, li2, li3, li4, li5, li6, li7, li8, li9, li10, li11, li12, li14, li15, li16, li18, li19, li20, li23, li24, li25, li26, li27, li30, li31, li32, li36, li40, li41, li42, li43, li44, li45, li47, li48, li57, li59, li60, li91, li93, li96, li97, li100, li105, li122, li150, li200, li255, li400, li500, li600, li999, li1000, li1001, li2000, li2001, li2002, li2003, li2004, li2005, li2006, li32767, li100000, li_neg, li13, li17, li21, li22, li28, li29, li33, li34, li35, li37, li38, li39, li46, li49, li50, li51, li52, li53, li63, li80, li115, li160]
      · refine CItp hr hP hW ht hL hD hv hi ex hn (fun a q => by unfold tpf; omega) (xE_T X ff) ?_ ?_ (fun k q => ?_)
        · rw [xE_0]; exact a3
        · rw [xE_1]; exact g5
        · rw [xE_0] at q; omega
      · exact oStp hO (xE_T X ff) (by rw [xE_0]; omega) (fun k q => by rw [xE_0] at q; omega)
      · obtain ⟨N3, N4, N5, y1, y2, y3, y4, y5, y6⟩ := mkey M1 hm
        rcases y6 with ⟨q, _⟩ | ⟨_, a'', z1⟩
        · exact absurd q ck0
        · dsimp only at z1
          have z5 := z1.1.2.2.1
          have z6 := z1.1.2.2.2
          have hk3 := z1.2.2.1
          have em := hm1 M1 hm
          refine ⟨sI N5 (o + 61) 3 (nI ff), ?_, ?_, ?_, ⟨y4.1, fun a k q => ?_, fun a k _ => y4.2.2.1 a k, fun a k _ => y4.2.2.2 a k⟩⟩
          · have ey : f_M_port_d (o + 61) (nI j) N5 = some (nI kk - nI 10, sI N5 (o + 61) 3 (nI ff)) := by
              have z7 : gI (sI N5 (o + 61) 3 (nI ff)) (o + 61) 5 = nI kk := by rw [gI_ne (Or.inr (by omega))]; exact z5
              simp (disch := omega) only [f_M_port_d, f_M_faulty, z5, z6, z7, bI_s, bV_s, bL_s, bR_s, bG_s, bG_n, bX_l, bX_r, ck_nI, nI_clamp, nI_leT, nI_leF, nI_ltT, nI_ltF, nI_eqF, nI_add, pk_mul, ofN, bt_e, or0, Nat.zero_add, Nat.add_zero, ↓reduceIte, if_true, if_false, Bool.false_eq_true, eq_self, li0, li1, li2, li3, li4, li5, li6, li7, li8, li9, li10, li11, li12, li14, li15, li16, li18, li19, li20, li23, li24, li25, li26, li27, li30, li31, li32, li36, li40, li41, li42, li43, li44, li45, li47, li48, li57, li59, li60, li91, li93, li96, li97, li100, li105, li122, li150, li200, li255, li400, li500, li600, li999, li1000, li1001, li2000, li2001, li2002, li2003, li2004, li2005, li2006, li32767, li100000, li_neg, li13, li17, li21, li22, li28, li29, li33, li34, li35, li37, li38, li39, li46, li49, li50, li51, li52, li53, li63, li80, li115, li160]
            simp (disch := omega) only [f_M_port, f_M_port_b, em, M_inT, hm.b0, y1, y2, y3, ey, bI_s, bV_s, bL_s, bR_s, bG_s, bG_n, bX_l, bX_r, ck_nI, nI_clamp, nI_leT, nI_leF, nI_ltT, nI_ltF, nI_eqF, nI_add, pk_mul, ofN, bt_e, or0, Nat.zero_add, Nat.add_zero, ↓reduceIte, if_true, if_false, Bool.false_eq_true, eq_self, li0, li1, li2, li3, li4, li5, li6, li7, li8, li9, li10, li11, li12, li14, li15, li16, li18, li19, li20, li23, li24, li25, li26, li27, li30, li31, li32, li36, li40, li41, li42, li43, li44, li45, li47, li48, li57, li59, li60, li91, li93, li96, li97, li100, li105, li122, li150, li200, li255, li400, li500, li600, li999, li1000, li1001, li2000, li2001, li2002, li2003, li2004, li2005, li2006, li32767, li100000, li_neg, li13, li17, li21, li22, li28, li29, li33, li34, li35, li37, li38, li39, li46, li49, li50, li51, li52, li53, li63, li80, li115, li160]
          · rw [gI_ne (Or.inr (by omega)), y4.2.1 _ _ (by unfold prD; omega)]; exact gI_same ..
          · refine MJtp hm hO (fun a k q => ?_) (xE_T X ff) ?_ ?_ (fun k q => ?_)
            · rw [gI_ne (by unfold usd qrg at q; omega), y4.2.1 _ _ (by unfold usd qrg at q; unfold prD; omega)]
            · rw [xE_0, gI_ne (Or.inr (by omega))]; exact y5
            · rw [xE_1, gI_same]
            · rw [xE_0] at q; omega
          · rw [gI_ne (Or.inl (by omega)), y4.2.1 _ _ (by unfold prD; omega)]
  · refine agE1 h (cc := 1) rfl rfl (by omega) ?_ (nI 0) (fun M1 hm => ?_)
    · simp (disch := omega) only [f_C_port, t1, w1, f_C_mustBe, t6, bI_s, bV_s, bL_s, bR_s, bG_s, bG_n, bX_l, bX_r, ck_nI, nI_clamp, nI_leT, nI_leF, nI_ltT, nI_ltF, nI_eqF, nI_add, pk_mul, ofN, bt_e, or0, Nat.zero_add, Nat.add_zero, ↓reduceIte, if_true, if_false, Bool.false_eq_true, eq_self, li0, li1, li2, li3, li4, li5, li6, li7, li8, li9, li10, li11, li12, li14, li15, li16, li18, li19, li20, li23, li24, li25, li26, li27, li30, li31, li32, li36, li40, li41, li42, li43, li44, li45, li47, li48, li57, li59, li60, li91, li93, li96, li97, li100, li105, li122, li150, li200, li255, li400, li500, li600, li999, li1000, li1001, li2000, li2001, li2002, li2003, li2004, li2005, li2006, li32767, li100000, li_neg, li13, li17, li21, li22, li28, li29, li33, li34, li35, li37, li38, li39, li46, li49, li50, li51, li52, li53, li63, li80, li115, li160]
    · have em := hm1 M1 hm
      simp (disch := omega) only [f_M_port, f_M_port_b, em, w2, hm.b11, bI_s, bV_s, bL_s, bR_s, bG_s, bG_n, bX_l, bX_r, ck_nI, nI_clamp, nI_leT, nI_leF, nI_ltT, nI_ltF, nI_eqF, nI_add, pk_mul, ofN, bt_e, or0, Nat.zero_add, Nat.add_zero, ↓reduceIte, if_true, if_false, Bool.false_eq_true, eq_self, li0, li1, li2, li3, li4, li5, li6, li7, li8, li9, li10, li11, li12, li14, li15, li16, li18, li19, li20, li23, li24, li25, li26, li27, li30, li31, li32, li36, li40, li41, li42, li43, li44, li45, li47, li48, li57, li59, li60, li91, li93, li96, li97, li100, li105, li122, li150, li200, li255, li400, li500, li600, li999, li1000, li1001, li2000, li2001, li2002, li2003, li2004, li2005, li2006, li32767, li100000, li_neg, li13, li17, li21, li22, li28, li29, li33, li34, li35, li37, li38, li39, li46, li49, li50, li51, li52, li53, li63, li80, li115, li160]
end
