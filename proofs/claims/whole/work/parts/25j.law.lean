/-! # functional level, 73: law agrees -/
section
variable {M M' M1 M2 N : Mm} {o m p l d : Nat} {S : St} {P W X : TT} {V : Nat → TT} {I : Nat → Nat → TT}
/-- a law put in place -/
def xL (X : TT) (n : Nat) (L : Nat → Nat) : TT := fun a b => if a = 2 then L b else if a = 0 ∧ b = 7 then n else xE X 4294967295 a b
theorem xL_o {n : Nat} {L : Nat → Nat} {a b : Nat} (h2 : a ≠ 2) (h7 : ¬ (a = 0 ∧ b = 7)) : xL X n L a b = xE X 4294967295 a b := by unfold xL; rw [if_neg h2, if_neg h7]
theorem xL_7 {n : Nat} {L : Nat → Nat} : xL X n L 0 7 = n := by unfold xL; rw [if_neg (by omega), if_pos ⟨rfl, rfl⟩]
theorem xL_2 {n : Nat} {L : Nat → Nat} : xL X n L 2 = L := funext (fun b => if_pos rfl)
theorem xL_r {n : Nat} {L : Nat → Nat} {a : Nat} (h2 : a ≠ 2) (h0 : a ≠ 0) : xL X n L a = xE X 4294967295 a := funext (fun b => xL_o h2 (by omega))
theorem MJll {X1 X2 : TT} (h : MJ M m (P, W, X1, V, I)) (oP : okP P) (oW : okD P W) (oD : X1 0 8 ≤ 10) (o5 : X1 0 5 ≤ 16 ∧ ∀ i, i < X1 0 5 → okD P (V i)) (o4 : X1 0 6 ≤ 3 ∧ ∀ j, j < X1 0 6 → okD P (I j 0) ∧ I j 1 0 0 ≤ 16 ∧ ∀ i, i < I j 1 0 0 → okD P (I j (2 + i))) (e : ∀ a j, ¬ ((a = m ∧ j = 23) ∨ (m + 44 ≤ a ∧ a < m + 204)) → gI M' a j = gI M a j) (hX : (∀ k, k ≠ 7 → X2 0 k = X1 0 k) ∧ X2 1 = X1 1 ∧ X2 3 = X1 3 ∧ X2 4 = X1 4) (hK : isK M' m (X2 0 7) (X2 2)) : MJ M' m (P, W, X2, V, I) := by
  obtain ⟨x0, x1, x3, x4⟩ := hX
  obtain ⟨⟨h1, h2⟩, ⟨⟨t1, t2⟩, t3, ⟨t4, t5, t6⟩, t7, t8⟩, ⟨h5, h6⟩, h7, h8⟩ := h
  dsimp only at h1 h2 t1 t2 t3 t4 t5 t6 t7 t8 h5 h6 h7 h8
  have hB := oP.b
  have hW := oP.w
  refine ⟨⟨⟨⟨?_, ?_, ?_⟩, fun k hk => ?_, fun k hk => ⟨?_, ?_⟩, fun k hk => ⟨?_, ?_, ?_⟩, fun k hk => ?_⟩, ?_⟩, ⟨⟨?_, ?_⟩, fun k hk => ?_, ⟨?_, ?_, ?_⟩, ?_, ?_⟩, ⟨hK, ⟨?_, fun k hk => ⟨?_, ?_⟩⟩⟩, fun i hi => ?_, fun j hj => ⟨?_, ?_, fun i hi => ?_⟩⟩
  · rw [e _ _ (by omega)]; exact h1.1.1
  · rw [e _ _ (by omega)]; exact h1.1.2.1
  · rw [e _ _ (by omega)]; exact h1.1.2.2
  · rw [e _ _ (by omega)]; exact h1.wide hk
  · dsimp only at hk; rw [e _ _ (by omega)]; exact h1.act hk
  · dsimp only at hk; rw [e _ _ (by omega)]; exact h1.len hk
  · dsimp only at hk; rw [e _ _ (by omega)]; exact h1.rch hk
  · dsimp only at hk; rw [e _ _ (by omega)]; exact h1.chk hk
  · rw [e _ _ (by omega)]; exact h1.kn hk
  · rw [e _ _ (by omega)]; exact h1.kin hk
  · exact isNr.cg h2 oP oW.1 (fun k _ => e _ _ (by omega))
  · dsimp only; rw [e _ _ (by omega), x0 0 (by omega)]; exact t1
  · dsimp only; rw [e _ _ (by omega), x0 1 (by omega)]; exact t2
  · dsimp only at hk ⊢; rw [x0 0 (by omega)] at hk; rw [e _ _ (by omega), x1]; exact t3 k hk
  · dsimp only; rw [e _ _ (by omega), x0 2 (by omega)]; exact t4
  · dsimp only; rw [e _ _ (by omega), x0 3 (by omega)]; exact t5
  · dsimp only; rw [e _ _ (by omega), x0 4 (by omega)]; exact t6
  · dsimp only; rw [e _ _ (by omega), x0 5 (by omega)]; exact t7
  · dsimp only; rw [e _ _ (by omega), x0 6 (by omega)]; exact t8
  · dsimp only; rw [e _ _ (by omega), x0 8 (by omega)]; exact h6.1
  · dsimp only at hk ⊢; rw [x0 8 (by omega)] at hk; rw [e _ _ (by omega), x3]; exact (h6.2 k hk).1
  · dsimp only at hk ⊢; rw [x0 8 (by omega)] at hk; rw [e _ _ (by omega), x4]; exact (h6.2 k hk).2
  · dsimp only at hi; rw [x0 5 (by omega)] at hi
    exact isNr.cg (h7 i hi) oP (o5.2 i hi).1 (fun k _ => e _ _ (by omega))
  · dsimp only at hj; rw [x0 6 (by omega)] at hj
    rw [e _ _ (by omega)]; exact (h8 j hj).1
  · dsimp only at hj; rw [x0 6 (by omega)] at hj
    exact isNr.cg (h8 j hj).2.1 oP (o4.2 j hj).1.1 (fun k _ => e _ _ (by omega))
  · dsimp only at hj; rw [x0 6 (by omega)] at hj
    exact isNr.cg ((h8 j hj).2.2 i hi) oP ((o4.2 j hj).2.2 i hi).1 (fun k _ => e _ _ (by omega))
theorem A_law (h : InvS o M S) (p0 : Int32) : Ag cd1 Int32.toInt64 o (fun k => k = 1) (f_C_law o p0 M) (fun M1 => f_M_law (o + 61) p0 M1) := by
  obtain ⟨P, W, X, V, I⟩ := S
  obtain ⟨p, l, d, hr, ⟨hP, hW⟩, ht, ⟨hL, hD⟩, hv, hi⟩ := id h.1
  dsimp only at hP hW ht hL hD hv hi
  have t1 := ht.1.1
  have t6 := ht.2.2.1.2.2
  have hO := h.2.2.1
  have hn := h.2.2.2.1
  have hX6 : X 0 0 ≤ 600 := hO.2.1.1.1
  have hXb : ∀ k, k < X 0 0 → X 1 k < 256 := hO.2.1.1.2
  have hp := hr.1.1
  have hl := hr.1.2.1
  have hd := hr.1.2.2
  have l150 : (150 : Int32) = nI 150 := rfl
  have hg : mnI (nI 150) (nI (X 0 0)) = nI (min 150 (X 0 0)) := mnI_n (by omega) (by omega)
  have hm1 : ∀ M1, MJ (sI M1 (o + 61) 0 (nI 0)) (o + 61) (P, W, X, V, I) → gI (sI M1 (o + 61) 0 (nI 0)) (o + 61) 1 = nI (X 0 0) := fun M1 hm => hm.2.1.1.1
  rcases wth p0 0 (X 0 0) (by omega) (by omega) with ⟨j, _, hj, rfl⟩ | ⟨w1, w2⟩
  · by_cases c60 : j ≤ 150
    · obtain ⟨ll, hll⟩ : ∃ ll, ll = 2 * o + 109 - l := ⟨_, rfl⟩
      obtain ⟨N1, e1, f1, a1, h1⟩ := C_open (N := M) (t := o + 1) (T := X 1) (j := j) (by omega) (fun i hi => ht.2.1 i (by omega)) (fun i hi => hXb i (by omega))
      have g13 : gR N1 o 13 = some ll := by rw [f1.2.2.2, hll]; exact hr.2.2.1.2
      have key := C_lread (l := ll) (by omega) c60 h1
      have mkey : ∀ M1, MJ (sI M1 (o + 61) 0 (nI 0)) (o + 61) (P, W, X, V, I) → ∃ N3 N6 N8 N9, f_M_starts (o + 61) (nI j) (sI M1 (o + 61) 0 (nI 0)) = some N3 ∧ f_M_sum 8 (o + 61) (sI N3 (o + 61) 24 (nI 0)) = some N6 ∧ f_M_blanks (o + 61) N6 = some N8 ∧ (if gI N8 (o + 61) 5 = nI 0 then (if gI N8 (o + 61) 2 ≤ gI N8 (o + 61) 4 then f_M_law_c (o + 61) (nI j) N8 else bV (f_M_wrong (o + 61) (nI 1) (gI N8 (o + 61) 4) N8) (fun M10 => f_M_law_c (o + 61) (nI j) M10)) else f_M_law_c (o + 61) (nI j) N8) = f_M_law_c (o + 61) (nI j) N9 ∧ FX (fun a k => kD (o + 61) a k ∨ (a = o + 61 ∧ (k = 1 ∨ k = 2 ∨ (4 ≤ k ∧ k ≤ 8)))) (sI M1 (o + 61) 0 (nI 0)) N9 ∧ gI N9 (o + 61) 1 = nI 0 ∧ mL N9 (o + 61) (X 1) j 0 (lwz (X 1) j) := by
        intro M1 hm
        obtain ⟨N3, q1, q2, q3, ⟨_, q4⟩, q5⟩ := M_starts (N := sI M1 (o + 61) 0 (nI 0)) (m := o + 61) (T := X 1) (j := j) (by omega) (fun i hi => hm.2.1.2.1 i (by show i < X 0 0; omega)) (fun i hi => hXb i (by omega))
        obtain ⟨N6, N8, N9, y1, y2, y3, y4, y5⟩ := M_lread (p0 := nI j) c60 q5 q4
        refine ⟨N3, N6, N8, N9, q1, y1, y2, y3, (q2.mono (fun _ _ q => Or.inr q)).trans (y4.mono (fun _ _ q => Or.inl q)), ?_, y5⟩
        rw [y4.2.1 _ _ (by unfold kD uD; omega)]; exact q3
      have hok := lwz_ok (T := X 1) (E := j) h1.2.2.2 c60
      generalize lwz (X 1) j = r at key mkey hok
      obtain ⟨kk, ff, aa, n, L⟩ := r
      dsimp only at hok
      obtain ⟨M3, e3, f3, h3⟩ := key
      have f13 : FX (fun a k => (a = o + 1 ∧ 1 ≤ k) ∨ (ll ≤ a ∧ a < ll + 3)) M M3 := (f1.mono (fun a k q => Or.inl ⟨q.1, q.2.1⟩)).trans (f3.mono (fun a k q => by unfold lD tD at q; show (a = o + 1 ∧ 1 ≤ k) ∨ (ll ≤ a ∧ a < ll + 3); omega))
      have a3 : gI M3 (o + 1) 1 = nI 0 := by rw [f3.2.1 _ _ (by unfold lD tD; omega)]; exact a1
      have ex : eqx (fun a => a = o + 1 ∨ (ll ≤ a ∧ a < ll + 3)) M M3 := ⟨by rw [f13.1.1]; exact Nat.le_refl _, fun a _ q => ⟨fun k => f13.2.1 a k (by omega), fun k => f13.2.2.2 a k⟩⟩
      have hFC : FC o M M3 := ⟨⟨by rw [f13.1.1]; exact Nat.le_refl _, fun a ha => by rw [f13.1.2]; exact h.2.2.2.2 a (by rw [f13.1.1] at ha; exact ha)⟩, fun a k h1 h2 => f13.2.1 a k (by omega)⟩
      rcases h3 with ⟨ck0, h4, h5⟩ | ⟨ck0, ⟨a', h4⟩, _⟩
      · dsimp only at ck0 h4 h5
        obtain ⟨⟨n1, n150⟩, gdn⟩ := hok ck0
        have efine := C_fine h4
        rw [if_pos rfl] at efine
        have g5 := h4.1.2.2.2
        have cc := CItp0 (X' := xE X 4294967295) hr hP hW ht hL hD hv hi ex hn (fun a q => by unfold tpf; omega) (xE_T X 4294967295) (by rw [xE_0]; exact a3) (by rw [xE_1]; exact g5) (fun k q => by rw [xE_0] at q; omega)
        have oo := oStp hO (xE_T X 4294967295) (by rw [xE_0]; omega) (fun k q => by rw [xE_0] at q; omega)
        have r12 : gR M3 o 12 = some l := cc.1.2.2.1.1
        have r13 : gR M3 o 13 = some ll := by rw [hll]; exact cc.1.2.2.1.2
        have s12 : gR (sR (sR M3 o 12 (some ll)) o 13 (some l)) o 12 = some ll := by rw [gR_ne (Or.inr (by omega)), gR_same]
        have sne : ∀ a k, ¬ (a = o ∧ (k = 12 ∨ k = 13)) → gR (sR (sR M3 o 12 (some ll)) o 13 (some l)) a k = gR M3 a k := fun a k q => by rw [gR_ne (by omega), gR_ne (by omega)]
        refine agW h (v := nI 1) (M' := sR (sR M3 o 12 (some ll)) o 13 (some l)) (S' := (P, W, xL X n L, V, I)) ?_ ?_ ?_ ⟨hFC.1, hFC.2⟩ (fun M1 hm => ?_)
        · simp (disch := omega) only [f_C_law, l150, t1, hg, C_inT, f_C_mustBe, e1, g13, e3, efine, r12, r13, bI_s, bV_s, bL_s, bR_s, bG_s, bG_n, bX_l, bX_r, ck_nI, nI_clamp, nI_leT, nI_leF, nI_ltT, nI_ltF, nI_eqF, nI_add, pk_mul, ofN, bt_e, or0, Nat.zero_add, Nat.add_zero, ↓reduceIte, if_true, if_false, Bool.false_eq_true, eq_self, li0, li1, li2, li3, li4, li5, li6, li7, li8, li9, li10, li11, li12, li14, li15, li16, li18, li19, li20, li23, li24, li25, li26, li27, li30, li31, li32, li36, li40, li41, li42, li43, li44, li45, li47, li48, li57, li59, li60, li91, li93, li96, li97, li100, li105, li122, li150, li200, li255, li400, li500, li600, li999, li1000, li1001, li2000, li2001, li2002, li2003, li2004, li2005, li2006, li32767, li100000, li_neg, li13, li17, li21, li22, li28, li29, li33, li34, li35, li37, li38, li39, li46, li49, li50, li51, li52, li53, li63, li80, li115, li160]
        · refine ⟨p, ll, d, ⟨⟨hp, by omega, hd⟩, ⟨?_, ?_⟩, ⟨s12, ?_⟩, ?_, ?_⟩, cc.2.1, ⟨⟨?_, ?_⟩, fun k q => ?_, ⟨?_, ?_, ?_⟩, ?_, ?_⟩, ⟨?_, ?_⟩, fun i q => ?_, fun i q => ?_⟩
          · rw [sne _ _ (by omega)]; exact cc.1.2.1.1
          · rw [sne _ _ (by omega)]; exact cc.1.2.1.2
          · rw [gR_same]; congr 1; omega
          · rw [sne _ _ (by omega)]; exact cc.1.2.2.2.1
          · rw [sne _ _ (by omega)]; exact cc.1.2.2.2.2
          · dsimp only; rw [xL_o (by omega) (by omega)]; exact cc.2.2.1.1.1
          · dsimp only; rw [xL_o (by omega) (by omega)]; exact cc.2.2.1.1.2
          · dsimp only at q; rw [xL_o (by omega) (by omega), xE_0] at q; omega
          · dsimp only; rw [xL_o (by omega) (by omega)]; exact cc.2.2.1.2.2.1.1
          · dsimp only; rw [xL_o (by omega) (by omega)]; exact cc.2.2.1.2.2.1.2.1
          · dsimp only; rw [xL_o (by omega) (by omega)]; exact cc.2.2.1.2.2.1.2.2
          · dsimp only; rw [xL_o (by omega) (by omega)]; exact cc.2.2.1.2.2.2.1
          · dsimp only; rw [xL_o (by omega) (by omega)]; exact cc.2.2.1.2.2.2.2
          · dsimp only; rw [xL_7, xL_2]
            unfold isLw
            rw [if_neg (by omega)]
            exact h5
          · dsimp only; rw [xL_o (by omega) (by omega), xL_r (by omega) (by omega), xL_r (by omega) (by omega)]; exact cc.2.2.2.1.2
          · dsimp only at q ⊢; rw [xL_o (by omega) (by omega)] at q
            obtain ⟨w, b1, b2, b3⟩ := cc.2.2.2.2.1 i q
            exact ⟨w, by rw [sne _ _ (by omega)]; exact b1, b2, b3⟩
          · dsimp only at q ⊢; rw [xL_o (by omega) (by omega)] at q
            obtain ⟨w, b1, b2, b3, b4, b5⟩ := cc.2.2.2.2.2 i q
            have b6 := b2.1
            refine ⟨w, by rw [sne _ _ (by omega)]; exact b1, b2, b3, b4, fun i2 q2 => ?_⟩
            obtain ⟨w2, b7, b8, b9⟩ := b5 i2 q2
            exact ⟨w2, by rw [sne _ _ (by omega)]; exact b7, b8, b9⟩
        · obtain ⟨q1, ⟨q2, q3⟩, ⟨q4, q9, q10⟩, ⟨q5, q6⟩, q7, q8⟩ := oo
          dsimp only at q1 q2 q3 q4 q5 q6 q7 q8 q9 q10
          refine ⟨q1, ⟨⟨?_, fun k q => ?_⟩, ?_⟩, ⟨?_, fun k q => ?_, fun i k z1 z2 => ?_⟩, ⟨?_, fun i q => ?_⟩, ?_, fun i q => ?_⟩
          · dsimp only; rw [xL_o (by omega) (by omega)]; exact q2.1
          · dsimp only at q ⊢; rw [xL_o (by omega) (by omega), xE_0] at q; omega
          · dsimp only; rw [xL_7, xL_2]; exact ⟨n150, gdn⟩
          · dsimp only; rw [xL_o (by omega) (by omega)]; exact q4
          · dsimp only at q ⊢; rw [xL_o (by omega) (by omega)] at q; rw [xL_r (by omega) (by omega), xL_r (by omega) (by omega)]; exact q9 k q
          · dsimp only at z2 ⊢; rw [xL_o (by omega) (by omega)] at z2; rw [xL_r (by omega) (by omega)]; exact q10 i k z1 z2
          · dsimp only; rw [xL_o (by omega) (by omega)]; exact q5
          · dsimp only at q ⊢; rw [xL_o (by omega) (by omega)] at q; exact q6 i q
          · dsimp only; rw [xL_o (by omega) (by omega)]; exact q7
          · dsimp only at q ⊢; rw [xL_o (by omega) (by omega)] at q; exact q8 i q
        · obtain ⟨N3, N6, N8, N9, y1, y2, y3, y4, y5, y6, y7⟩ := mkey M1 hm
          rcases y7 with ⟨_, z1, z2, _⟩ | ⟨q, _⟩
          · dsimp only at z1 z2
            have z5 := z1.1.2.2.1
            have z24 := z2.1
            have em := hm1 M1 hm
            have m5 : MJ (sI N9 (o + 61) 3 (nI 4294967295)) (o + 61) (P, W, xE X 4294967295, V, I) := by
              refine MJtp hm hO (fun a k q => ?_) (xE_T X 4294967295) ?_ ?_ (fun k q => ?_)
              · rw [gI_ne (by unfold usd qrg at q; omega), y5.2.1 _ _ (by unfold usd qrg at q; unfold kD uD; omega)]
              · rw [xE_0, gI_ne (Or.inr (by omega))]; exact y6
              · rw [xE_1, gI_same]
              · rw [xE_0] at q; omega
            obtain ⟨N6', y9, w1, w2⟩ := M_layr (q0 := o + 61 + 204) (q1 := o + 61 + 43) (n := n) (L := 160) (by omega) (by omega) (by omega) (sI (sI N9 (o + 61) 3 (nI 4294967295)) (o + 61) 23 (nI n))
            have z3 : ∀ a k, ¬ ((a = o + 61 ∧ k = 23) ∨ (o + 61 + 44 ≤ a ∧ a < o + 61 + 204)) → gI N6' a k = gI (sI N9 (o + 61) 3 (nI 4294967295)) a k := fun a k q => by rw [w1.2.1 _ _ (by omega), gI_ne (by omega)]
            have u1 : gI (sI N9 (o + 61) 3 (nI 4294967295)) (o + 61) 24 = nI n := by rw [gI_ne (by omega)]; exact z24
            refine ⟨N6', ?_, ?_, ?_, ⟨⟨w1.1.1.trans y5.1.1, w1.1.2.trans y5.1.2⟩, fun a k q => ?_, fun a k _ => (w1.2.2.1 a k).trans (y5.2.2.1 a k), fun a k _ => (w1.2.2.2 a k).trans (y5.2.2.2 a k)⟩⟩
            · have ey : f_M_law_c (o + 61) (nI j) N9 = some (nI 1, N6') := by
                simp (disch := omega) only [f_M_law_c, z5, u1, gI_same, y9, bI_s, bV_s, bL_s, bR_s, bG_s, bG_n, bX_l, bX_r, ck_nI, nI_clamp, nI_leT, nI_leF, nI_ltT, nI_ltF, nI_eqF, nI_add, pk_mul, ofN, bt_e, or0, Nat.zero_add, Nat.add_zero, ↓reduceIte, if_true, if_false, Bool.false_eq_true, eq_self, li0, li1, li2, li3, li4, li5, li6, li7, li8, li9, li10, li11, li12, li14, li15, li16, li18, li19, li20, li23, li24, li25, li26, li27, li30, li31, li32, li36, li40, li41, li42, li43, li44, li45, li47, li48, li57, li59, li60, li91, li93, li96, li97, li100, li105, li122, li150, li200, li255, li400, li500, li600, li999, li1000, li1001, li2000, li2001, li2002, li2003, li2004, li2005, li2006, li32767, li100000, li_neg, li13, li17, li21, li22, li28, li29, li33, li34, li35, li37, li38, li39, li46, li49, li50, li51, li52, li53, li63, li80, li115, li160]
              have y4' := y4.trans ey
              have c150 : nI j ≤ nI 150 := nI_le c60 (by omega)
              simp (disch := omega) only [f_M_law, f_M_law_b, l150, em, M_inT, hm.b0, y1, y2, y3, bI_s, bV_s, bL_s, bR_s, bG_s, bG_n, bX_l, bX_r, ck_nI, nI_clamp, nI_leT, nI_leF, nI_ltT, nI_ltF, nI_eqF, nI_add, pk_mul, ofN, bt_e, or0, Nat.zero_add, Nat.add_zero, ↓reduceIte, if_true, if_false, Bool.false_eq_true, eq_self, li0, li1, li2, li3, li4, li5, li6, li7, li8, li9, li10, li11, li12, li14, li15, li16, li18, li19, li20, li23, li24, li25, li26, li27, li30, li31, li32, li36, li40, li41, li42, li43, li44, li45, li47, li48, li57, li59, li60, li91, li93, li96, li97, li100, li105, li122, li150, li200, li255, li400, li500, li600, li999, li1000, li1001, li2000, li2001, li2002, li2003, li2004, li2005, li2006, li32767, li100000, li_neg, li13, li17, li21, li22, li28, li29, li33, li34, li35, li37, li38, li39, li46, li49, li50, li51, li52, li53, li63, li80, li115, li160]
              exact y4'
            · rw [z3 _ _ (by omega), gI_ne (Or.inr (by omega)), y5.2.1 _ _ (by unfold kD uD; omega)]; exact gI_same ..
            · refine MJll m5 oo.1.1 oo.1.2 oo.2.2.1.1 oo.2.2.2.1 oo.2.2.2.2 z3 ⟨fun k q => xL_o (by omega) (by omega), xL_r (by omega) (by omega), xL_r (by omega) (by omega), xL_r (by omega) (by omega)⟩ ⟨?_, fun k q => ?_⟩
              · rw [xL_7, w1.2.1 _ _ (by omega), gI_same]
              · rw [xL_7] at q
                rw [xL_2, (w2 k q).1, (w2 k q).2]
                rw [gI_ne (Or.inl (by omega)), gI_ne (Or.inl (by omega)), gI_ne (Or.inl (by omega)), gI_ne (Or.inl (by omega))]
                exact z2.2 k q
            · rw [z3 _ _ (by omega), gI_ne (Or.inl (by omega)), y5.2.1 _ _ (by unfold kD uD; omega)]
          · exact absurd ck0 q
      · dsimp only at ck0 h4
        have efine := C_fine h4
        rw [if_neg ck0] at efine
        have g4 := h4.1.2.2.1
        have g5 := h4.1.2.2.2
        have hk3 := h4.2.2.1
        refine agW h (v := nI kk - nI 10) (M' := M3) (S' := (P, W, xE X ff, V, I)) ?_ ?_ ?_ hFC (fun M1 hm => ?_)
        · simp (disch := omega) only [f_C_law, l150, t1, hg, C_inT, f_C_mustBe, e1, g13, e3, efine, f_Tape_faultAnswer, g4, bI_s, bV_s, bL_s, bR_s, bG_s, bG_n, bX_l, bX_r, ck_nI, nI_clamp, nI_leT, nI_leF, nI_ltT, nI_ltF, nI_eqF, nI_add, pk_mul, ofN, bt_e, or0, Nat.zero_add, Nat.add_zero, ↓reduceIte, if_true, if_false, Bool.false_eq_true, eq_self, li0, li1, li2, li3, li4, li5, li6, li7, li8, li9, li10, li11, li12, li14, li15, li16, li18, li19, li20, li23, li24, li25, li26, li27, li30, li31, li32, li36, li40, li41, li42, li43, li44, li45, li47, li48, li57, li59, li60, li91, li93, li96, li97, li100, li105, li122, li150, li200, li255, li400, li500, li600, li999, li1000, li1001, li2000, li2001, li2002, li2003, li2004, li2005, li2006, li32767, li100000, li_neg, li13, li17, li21, li22, li28, li29, li33, li34, li35, li37, li38, li39, li46, li49, li50, li51, li52, li53, li63, li80, li115, li160]
        · refine CItp hr hP hW ht hL hD hv hi ex hn (fun a q => by unfold tpf; omega) (xE_T X ff) ?_ ?_ (fun k q => ?_)
          · rw [xE_0]; exact a3
          · rw [xE_1]; exact g5
          · rw [xE_0] at q; omega
        · exact oStp hO (xE_T X ff) (by rw [xE_0]; omega) (fun k q => by rw [xE_0] at q; omega)
        · obtain ⟨N3, N6, N8, N9, y1, y2, y3, y4, y5, y6, y7⟩ := mkey M1 hm
          rcases y7 with ⟨q, _⟩ | ⟨_, a'', z1⟩
          · exact absurd q ck0
          · dsimp only at z1
            have z5 := z1.1.2.2.1
            have z6 := z1.1.2.2.2
            have em := hm1 M1 hm
            refine ⟨sI N9 (o + 61) 3 (nI ff), ?_, ?_, ?_, ⟨y5.1, fun a k q => ?_, fun a k _ => y5.2.2.1 a k, fun a k _ => y5.2.2.2 a k⟩⟩
            · have ey : f_M_law_c (o + 61) (nI j) N9 = some (nI kk - nI 10, sI N9 (o + 61) 3 (nI ff)) := by
                have z7 : gI (sI N9 (o + 61) 3 (nI ff)) (o + 61) 5 = nI kk := by rw [gI_ne (Or.inr (by omega))]; exact z5
                simp (disch := omega) only [f_M_law_c, f_M_faulty, z5, z6, z7, bI_s, bV_s, bL_s, bR_s, bG_s, bG_n, bX_l, bX_r, ck_nI, nI_clamp, nI_leT, nI_leF, nI_ltT, nI_ltF, nI_eqF, nI_add, pk_mul, ofN, bt_e, or0, Nat.zero_add, Nat.add_zero, ↓reduceIte, if_true, if_false, Bool.false_eq_true, eq_self, li0, li1, li2, li3, li4, li5, li6, li7, li8, li9, li10, li11, li12, li14, li15, li16, li18, li19, li20, li23, li24, li25, li26, li27, li30, li31, li32, li36, li40, li41, li42, li43, li44, li45, li47, li48, li57, li59, li60, li91, li93, li96, li97, li100, li105, li122, li150, li200, li255, li400, li500, li600, li999, li1000, li1001, li2000, li2001, li2002, li2003, li2004, li2005, li2006, li32767, li100000, li_neg, li13, li17, li21, li22, li28, li29, li33, li34, li35, li37, li38, li39, li46, li49, li50, li51, li52, li53, li63, li80, li115, li160]
              have y4' := y4.trans ey
              simp (disch := omega) only [f_M_law, f_M_law_b, l150, em, M_inT, hm.b0, y1, y2, y3, bI_s, bV_s, bL_s, bR_s, bG_s, bG_n, bX_l, bX_r, ck_nI, nI_clamp, nI_leT, nI_leF, nI_ltT, nI_ltF, nI_eqF, nI_add, pk_mul, ofN, bt_e, or0, Nat.zero_add, Nat.add_zero, ↓reduceIte, if_true, if_false, Bool.false_eq_true, eq_self, li0, li1, li2, li3, li4, li5, li6, li7, li8, li9, li10, li11, li12, li14, li15, li16, li18, li19, li20, li23, li24, li25, li26, li27, li30, li31, li32, li36, li40, li41, li42, li43, li44, li45, li47, li48, li57, li59, li60, li91, li93, li96, li97, li100, li105, li122, li150, li200, li255, li400, li500, li600, li999, li1000, li1001, li2000, li2001, li2002, li2003, li2004, li2005, li2006, li32767, li100000, li_neg, li13, li17, li21, li22, li28, li29, li33, li34, li35, li37, li38, li39, li46, li49, li50, li51, li52, li53, li63, li80, li115, li160]
              exact y4'
            · rw [gI_ne (Or.inr (by omega)), y5.2.1 _ _ (by unfold kD uD; omega)]; exact gI_same ..
            · refine MJtp hm hO (fun a k q => ?_) (xE_T X ff) ?_ ?_ (fun k q => ?_)
              · rw [gI_ne (by unfold usd qrg at q; omega), y5.2.1 _ _ (by unfold usd qrg at q; unfold kD uD; omega)]
              · rw [xE_0, gI_ne (Or.inr (by omega))]; exact y6
              · rw [xE_1, gI_same]
              · rw [xE_0] at q; omega
            · rw [gI_ne (Or.inl (by omega)), y5.2.1 _ _ (by unfold kD uD; omega)]
    · refine agE1 h (cc := 1) rfl rfl (by omega) ?_ (nI 0) (fun M1 hm => ?_)
      · simp (disch := omega) only [f_C_law, f_C_isWithin, l150, t1, hg, f_C_mustBe, t6, bI_s, bV_s, bL_s, bR_s, bG_s, bG_n, bX_l, bX_r, ck_nI, nI_clamp, nI_leT, nI_leF, nI_ltT, nI_ltF, nI_eqF, nI_add, pk_mul, ofN, bt_e, or0, Nat.zero_add, Nat.add_zero, ↓reduceIte, if_true, if_false, Bool.false_eq_true, eq_self, li0, li1, li2, li3, li4, li5, li6, li7, li8, li9, li10, li11, li12, li14, li15, li16, li18, li19, li20, li23, li24, li25, li26, li27, li30, li31, li32, li36, li40, li41, li42, li43, li44, li45, li47, li48, li57, li59, li60, li91, li93, li96, li97, li100, li105, li122, li150, li200, li255, li400, li500, li600, li999, li1000, li1001, li2000, li2001, li2002, li2003, li2004, li2005, li2006, li32767, li100000, li_neg, li13, li17, li21, li22, li28, li29, li33, li34, li35, li37, li38, li39, li46, li49, li50, li51, li52, li53, li63, li80, li115, li160]
      · have em := hm1 M1 hm
        simp (disch := omega) only [f_M_law, f_M_law_b, l150, em, M_inT, hm.b11, bI_s, bV_s, bL_s, bR_s, bG_s, bG_n, bX_l, bX_r, ck_nI, nI_clamp, nI_leT, nI_leF, nI_ltT, nI_ltF, nI_eqF, nI_add, pk_mul, ofN, bt_e, or0, Nat.zero_add, Nat.add_zero, ↓reduceIte, if_true, if_false, Bool.false_eq_true, eq_self, li0, li1, li2, li3, li4, li5, li6, li7, li8, li9, li10, li11, li12, li14, li15, li16, li18, li19, li20, li23, li24, li25, li26, li27, li30, li31, li32, li36, li40, li41, li42, li43, li44, li45, li47, li48, li57, li59, li60, li91, li93, li96, li97, li100, li105, li122, li150, li200, li255, li400, li500, li600, li999, li1000, li1001, li2000, li2001, li2002, li2003, li2004, li2005, li2006, li32767, li100000, li_neg, li13, li17, li21, li22, li28, li29, li33, li34, li35, li37, li38, li39, li46, li49, li50, li51, li52, li53, li63, li80, li115, li160]
  · have w3 : ∀ M, f_C_isWithin p0 (nI 0) (nI (min 150 (X 0 0))) M = some (nI 0, M) := by
      rcases wth p0 0 (min 150 (X 0 0)) (by omega) (by omega) with ⟨j, _, hj, rfl⟩ | ⟨w3, _⟩
      · intro N
        have q1 := w2 N
        rw [M_inT (by omega) (by omega) (by omega)] at q1
        have q2 : nI 1 = nI 0 := congrArg Prod.fst (Option.some.inj q1)
        exact absurd q2 (by decide)
      · exact w3
    refine agE1 h (cc := 1) rfl rfl (by omega) ?_ (nI 0) (fun M1 hm => ?_)
    · simp (disch := omega) only [f_C_law, l150, t1, hg, w3, f_C_mustBe, t6, bI_s, bV_s, bL_s, bR_s, bG_s, bG_n, bX_l, bX_r, ck_nI, nI_clamp, nI_leT, nI_leF, nI_ltT, nI_ltF, nI_eqF, nI_add, pk_mul, ofN, bt_e, or0, Nat.zero_add, Nat.add_zero, ↓reduceIte, if_true, if_false, Bool.false_eq_true, eq_self, li0, li1, li2, li3, li4, li5, li6, li7, li8, li9, li10, li11, li12, li14, li15, li16, li18, li19, li20, li23, li24, li25, li26, li27, li30, li31, li32, li36, li40, li41, li42, li43, li44, li45, li47, li48, li57, li59, li60, li91, li93, li96, li97, li100, li105, li122, li150, li200, li255, li400, li500, li600, li999, li1000, li1001, li2000, li2001, li2002, li2003, li2004, li2005, li2006, li32767, li100000, li_neg, li13, li17, li21, li22, li28, li29, li33, li34, li35, li37, li38, li39, li46, li49, li50, li51, li52, li53, li63, li80, li115, li160]
    · have em := hm1 M1 hm
      simp (disch := omega) only [f_M_law, f_M_law_b, em, w2, hm.b11, bI_s, bV_s, bL_s, bR_s, bG_s, bG_n, bX_l, bX_r, ck_nI, nI_clamp, nI_leT, nI_leF, nI_ltT, nI_ltF, nI_eqF, nI_add, pk_mul, ofN, bt_e, or0, Nat.zero_add, Nat.add_zero, ↓reduceIte, if_true, if_false, Bool.false_eq_true, eq_self, li0, li1, li2, li3, li4, li5, li6, li7, li8, li9, li10, li11, li12, li14, li15, li16, li18, li19, li20, li23, li24, li25, li26, li27, li30, li31, li32, li36, li40, li41, li42, li43, li44, li45, li47, li48, li57, li59, li60, li91, li93, li96, li97, li100, li105, li122, li150, li200, li255, li400, li500, li600, li999, li1000, li1001, li2000, li2001, li2002, li2003, li2004, li2005, li2006, li32767, li100000, li_neg, li13, li17, li21, li22, li28, li29, li33, li34, li35, li37, li38, li39, li46, li49, li50, li51, li52, li53, li63, li80, li115, li160]
end
