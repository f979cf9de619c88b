/-! # functional level, 43: deeds agrees -/
section
variable {M M' M1 M2 N : Mm} {o m p l d : Nat} {S : St} {P W X : TT} {V : Nat → TT} {I : Nat → Nat → TT}
/-- the tape emptied, a fault's place kept -/
def xE (X : TT) (f : Nat) : TT := up (up X 0 0 0) 0 1 f
theorem xE_T (X : TT) (f : Nat) : xT X (xE X f) := ⟨fun k hk => by unfold xE; rw [up_n (by omega), up_n (by omega)], by unfold xE; rw [up_row (by omega), up_row (by omega)], by unfold xE; rw [up_row (by omega), up_row (by omega)], by unfold xE; rw [up_row (by omega), up_row (by omega)]⟩
theorem xE_0 (X : TT) (f : Nat) : xE X f 0 0 = 0 := by unfold xE; rw [up_n (by omega), up_s]
theorem xE_1 (X : TT) (f : Nat) : xE X f 0 1 = f := up_s ..
/-- the deeds put in place -/
def xD (X : TT) (n : Nat) (A B : Nat → Nat) : TT := fun a b => if a = 3 then A b else if a = 4 then B b else if a = 0 ∧ b = 8 then n else xE X 4294967295 a b
theorem xD_o {n : Nat} {A B : Nat → Nat} {a b : Nat} (h3 : a ≠ 3) (h4 : a ≠ 4) (h8 : ¬ (a = 0 ∧ b = 8)) : xD X n A B a b = xE X 4294967295 a b := by unfold xD; rw [if_neg h3, if_neg h4, if_neg h8]
theorem xD_8 {n : Nat} {A B : Nat → Nat} : xD X n A B 0 8 = n := by unfold xD; rw [if_neg (by omega), if_neg (by omega), if_pos ⟨rfl, rfl⟩]
theorem xD_3 {n : Nat} {A B : Nat → Nat} : xD X n A B 3 = A := funext (fun b => if_pos rfl)
theorem xD_4 {n : Nat} {A B : Nat → Nat} : xD X n A B 4 = B := funext (fun b => (if_neg (by omega)).trans (if_pos rfl))
theorem xD_r {n : Nat} {A B : Nat → Nat} {a : Nat} (h3 : a ≠ 3) (h4 : a ≠ 4) (h0 : a ≠ 0) : xD X n A B a = xE X 4294967295 a := funext (fun b => xD_o h3 h4 (by omega))
theorem dz_ok {T : Nat → Nat} {E : Nat} : ∀ (u a n : Nat) (A B : Nat → Nat), (dz T E u a n A B).1 = 0 → (dz T E u a n A B).2.1 = 4294967295 := by
  intro u
  induction u with
  | zero => intro a n A B _; rfl
  | succ u ih =>
    intro a n A B h
    unfold dz at h ⊢
    by_cases c0 : E ≤ sk T E a
    · rw [if_pos c0]
    · rw [if_neg c0] at h ⊢
      by_cases c1 : nK T E a (nI 0) (nI 9) ≠ 0
      · rw [if_pos c1] at h; exact absurd h c1
      · rw [if_neg c1] at h ⊢
        by_cases c2 : hs (und n A) (dg T E (sk T E a)).2 = true
        · rw [if_pos c2] at h; exact absurd h (by show ¬ (2 : Nat) = 0; omega)
        · rw [if_neg c2] at h ⊢
          by_cases c3 : nK T E (dg T E (sk T E a)).1 (nI 0) (nI 1) ≠ 0
          · rw [if_pos c3] at h; exact absurd h c3
          · rw [if_neg c3] at h ⊢
            by_cases c4 : ¬ (sk T E (dg T E (sk T E (dg T E (sk T E a)).1)).1 < E ∧ T (sk T E (dg T E (sk T E (dg T E (sk T E a)).1)).1) = 59)
            · rw [if_pos c4] at h; exact absurd h (by show ¬ (1 : Nat) = 0; omega)
            · rw [if_neg c4] at h ⊢; exact ih _ _ _ _ h
theorem MJdd {X1 X2 : TT} (h : MJ M m (P, W, X1, V, I)) (oP : okP P) (oW : okD P W) (oK : okK (X1 0 7) (X1 2)) (o5 : X1 0 5 ≤ 16 ∧ ∀ i, i < X1 0 5 → okD P (V i)) (o4 : X1 0 6 ≤ 3 ∧ ∀ j, j < X1 0 6 → okD P (I j 0) ∧ I j 1 0 0 ≤ 16 ∧ ∀ i, i < I j 1 0 0 → okD P (I j (2 + i))) (e : ∀ a j, ¬ ((a = m ∧ j = 37) ∨ (m + 366 ≤ a ∧ a < m + 376)) → gI M' a j = gI M a j) (hX : (∀ k, k ≠ 8 → X2 0 k = X1 0 k) ∧ X2 1 = X1 1 ∧ X2 2 = X1 2) (hD : MId M' m (X2 0 8) (X2 3) (X2 4)) : MJ M' m (P, W, X2, V, I) := by
  obtain ⟨x0, x1, x2⟩ := hX
  obtain ⟨⟨h1, h2⟩, ⟨⟨t1, t2⟩, t3, ⟨t4, t5, t6⟩, t7, t8⟩, ⟨h5, h6⟩, h7, h8⟩ := h
  dsimp only at h1 h2 t1 t2 t3 t4 t5 t6 t7 t8 h5 h6 h7 h8
  have hB := oP.b
  have hW := oP.w
  have hn := oK.1
  refine ⟨⟨⟨⟨?_, ?_, ?_⟩, fun k hk => ?_, fun k hk => ⟨?_, ?_⟩, fun k hk => ⟨?_, ?_, ?_⟩, fun k hk => ?_⟩, ?_⟩, ⟨⟨?_, ?_⟩, fun k hk => ?_, ⟨?_, ?_, ?_⟩, ?_, ?_⟩, ⟨⟨?_, fun k hk => ⟨?_, ?_⟩⟩, hD⟩, fun i hi => ?_, fun j hj => ⟨?_, ?_, fun i hi => ?_⟩⟩
  · rw [e _ _ (by omega)]; exact h1.1.1
  · rw [e _ _ (by omega)]; exact h1.1.2.1
  · rw [e _ _ (by omega)]; exact h1.1.2.2
  · rw [e _ _ (by omega)]; exact h1.wide hk
  · dsimp only at hk; rw [e _ _ (by omega)]; exact h1.act hk
  · dsimp only at hk; rw [e _ _ (by omega)]; exact h1.len hk
  · dsimp only at hk; rw [e _ _ (by omega)]; exact h1.rch hk
  · dsimp only at hk; rw [e _ _ (by omega)]; exact h1.chk hk
  · rw [e _ _ (by omega)]; exact h1.kn hk
  · rw [e _ _ (by omega)]; exact h1.kin hk
  · exact isNr.cg h2 oP oW.1 (fun k _ => e _ _ (by omega))
  · dsimp only; rw [e _ _ (by omega), x0 0 (by omega)]; exact t1
  · dsimp only; rw [e _ _ (by omega), x0 1 (by omega)]; exact t2
  · dsimp only at hk ⊢; rw [x0 0 (by omega)] at hk; rw [e _ _ (by omega), x1]; exact t3 k hk
  · dsimp only; rw [e _ _ (by omega), x0 2 (by omega)]; exact t4
  · dsimp only; rw [e _ _ (by omega), x0 3 (by omega)]; exact t5
  · dsimp only; rw [e _ _ (by omega), x0 4 (by omega)]; exact t6
  · dsimp only; rw [e _ _ (by omega), x0 5 (by omega)]; exact t7
  · dsimp only; rw [e _ _ (by omega), x0 6 (by omega)]; exact t8
  · dsimp only; rw [e _ _ (by omega), x0 7 (by omega)]; exact h5.1
  · dsimp only at hk ⊢; rw [x0 7 (by omega)] at hk; rw [e _ _ (by omega), x2]; exact (h5.2 k hk).1
  · dsimp only at hk ⊢; rw [x0 7 (by omega)] at hk; rw [e _ _ (by omega), x2]; exact (h5.2 k hk).2
  · dsimp only at hi; rw [x0 5 (by omega)] at hi
    exact isNr.cg (h7 i hi) oP (o5.2 i hi).1 (fun k _ => e _ _ (by omega))
  · dsimp only at hj; rw [x0 6 (by omega)] at hj
    rw [e _ _ (by omega)]; exact (h8 j hj).1
  · dsimp only at hj; rw [x0 6 (by omega)] at hj
    exact isNr.cg (h8 j hj).2.1 oP (o4.2 j hj).1.1 (fun k _ => e _ _ (by omega))
  · dsimp only at hj; rw [x0 6 (by omega)] at hj
    exact isNr.cg ((h8 j hj).2.2 i hi) oP ((o4.2 j hj).2.2 i hi).1 (fun k _ => e _ _ (by omega))
theorem A_deeds (h : InvS o M S) (p0 : Int32) : Ag cd1 Int32.toInt64 o (fun k => k = 1) (f_C_deeds o p0 M) (fun M1 => f_M_deeds (o + 61) p0 M1) := by
  obtain ⟨P, W, X, V, I⟩ := S
  obtain ⟨p, l, d, hr, ⟨hP, hW⟩, ht, ⟨hL, hD⟩, hv, hi⟩ := id h.1
  dsimp only at hP hW ht hL hD hv hi
  have t1 := ht.1.1
  have t6 := ht.2.2.1.2.2
  have hO := h.2.2.1
  have hn := h.2.2.2.1
  have hX6 : X 0 0 ≤ 600 := hO.2.1.1.1
  have hXb : ∀ k, k < X 0 0 → X 1 k < 256 := hO.2.1.1.2
  have hp := hr.1.1
  have hl := hr.1.2.1
  have hd := hr.1.2.2
  have hm1 : ∀ M1, MJ (sI M1 (o + 61) 0 (nI 0)) (o + 61) (P, W, X, V, I) → gI (sI M1 (o + 61) 0 (nI 0)) (o + 61) 1 = nI (X 0 0) := fun M1 hm => hm.2.1.1.1
  rcases wth p0 0 (X 0 0) (by omega) (by omega) with ⟨j, _, hj, rfl⟩ | ⟨w1, w2⟩
  · by_cases c60 : j ≤ 60
    · obtain ⟨N1, e1, f1, a1, h1⟩ := C_open (N := M) (t := o + 1) (T := X 1) (j := j) (by omega) (fun i hi => ht.2.1 i (by omega)) (fun i hi => hXb i (by omega))
      have g15 : gR N1 o 15 = some (2 * o + 119 - d) := by rw [f1.2.2.2]; exact hr.2.2.2.2
      have f2 : FX (fun a k => a = 2 * o + 119 - d) N1 (sI (sI N1 (2 * o + 119 - d) 0 (nI 0)) (2 * o + 119 - d) 1 (nI 0)) := ((FX.rf (fun a k => a = 2 * o + 119 - d) N1).sI (show 2 * o + 119 - d = 2 * o + 119 - d from rfl)).sI (show 2 * o + 119 - d = 2 * o + 119 - d from rfl)
      have h2 := h1.fx f2 (fun j q => by omega) (fun j q => by omega)
      have key := C_dread (d := 2 * o + 119 - d) (t := o + 1) (T := X 1) (E := j) ⟨by omega, by omega⟩ (j + 1) 0 0 (fun _ => 0) (fun _ => 0) FU _ h2 ⟨by rw [gI_ne (Or.inr (by omega)), gI_same]; rfl, by rw [gI_same]; rfl⟩ ⟨fun k hk => by omega, fun i k h1 h2 => by omega⟩ (by omega) (by omega) (by show 13 ≤ 10000 + 0; omega)
      have mkey : ∀ M1, MJ (sI M1 (o + 61) 0 (nI 0)) (o + 61) (P, W, X, V, I) → ∃ N3 x2 x3 N4, f_M_starts (o + 61) (nI j) (sI M1 (o + 61) 0 (nI 0)) = some N3 ∧ f_M_deeds_c FU (o + 61) (nI j) (nI 0) (nI 0) N3 = f_M_deeds_f (o + 61) (nI j) x2 x3 N4 ∧ FX (fun a k => mdD (o + 61) a k ∨ (a = o + 61 ∧ (k = 1 ∨ k = 2 ∨ (4 ≤ k ∧ k ≤ 8)))) (sI M1 (o + 61) 0 (nI 0)) N4 ∧ gI N4 (o + 61) 1 = nI 0 ∧ (∃ a', MTp N4 (o + 61) (X 1) j a' (dz (X 1) j (j + 1) 0 0 (fun _ => 0) (fun _ => 0)).1 (dz (X 1) j (j + 1) 0 0 (fun _ => 0) (fun _ => 0)).2.1) ∧ ((dz (X 1) j (j + 1) 0 0 (fun _ => 0) (fun _ => 0)).1 = 0 → x2 = nI (dz (X 1) j (j + 1) 0 0 (fun _ => 0) (fun _ => 0)).2.2.1 ∧ isR N4 (o + 61) (dz (X 1) j (j + 1) 0 0 (fun _ => 0) (fun _ => 0)).2.2.1 (dz (X 1) j (j + 1) 0 0 (fun _ => 0) (fun _ => 0)).2.2.2.1 (dz (X 1) j (j + 1) 0 0 (fun _ => 0) (fun _ => 0)).2.2.2.2) := by
        intro M1 hm
        obtain ⟨N3, q1, q2, q3, _, q4⟩ := M_starts (N := sI M1 (o + 61) 0 (nI 0)) (m := o + 61) (T := X 1) (j := j) (by omega) (fun i hi => hm.2.1.2.1 i (by show i < X 0 0; omega)) (fun i hi => hXb i (by omega))
        obtain ⟨x2, x3, N4, y1, y2, y3, y4⟩ := M_dread (m := o + 61) (T := X 1) (E := j) (p0 := nI j) (j + 1) 0 0 (fun _ => 0) (fun _ => 0) FU N3 (by omega) q4 (fun k hk => by omega) ⟨fun k hk => by omega, fun i k h1 h2 => by omega⟩ (by omega) (by omega) (by show j + 1 < 10000; omega)
        refine ⟨N3, x2, x3, N4, q1, y1, (q2.mono (fun _ _ q => Or.inr q)).trans (y2.mono (fun _ _ q => Or.inl q)), ?_, y3, y4⟩
        rw [y2.2.1 _ _ (by unfold mdD uD; omega)]; exact q3
      have hzk := dz_ok (T := X 1) (E := j) (j + 1) 0 0 (fun _ => 0) (fun _ => 0)
      generalize dz (X 1) j (j + 1) 0 0 (fun _ => 0) (fun _ => 0) = r at key mkey hzk
      obtain ⟨kk, ff, n, A, B⟩ := r
      dsimp only at key mkey hzk
      obtain ⟨M3, e3, f3, ⟨a', h3⟩, h4⟩ := key
      have e4 : f_Deeds_read (2 * o + 119 - d) (o + 1) N1 = some M3 := by
        show bV (f_Deeds_clear (2 * o + 119 - d) N1) _ = _
        unfold f_Deeds_clear
        rw [bV_s]
        exact e3
      have f13 : FX (fun a k => (a = o + 1 ∧ 1 ≤ k) ∨ a = 2 * o + 119 - d) M M3 := ((f1.mono (fun a k q => Or.inl ⟨q.1, q.2.1⟩)).trans (f2.mono (fun a k q => Or.inr q))).trans (f3.mono (fun a k q => by unfold dD tD at q; omega))
      have a3 : gI M3 (o + 1) 1 = nI 0 := by rw [f3.2.1 _ _ (by unfold dD tD; omega), f2.2.1 _ _ (by omega)]; exact a1
      have efine := C_fine h3
      have hk3 := h3.2.2.1
      have g4 := h3.1.2.2.1
      have g5 := h3.1.2.2.2
      have ex : eqx (fun a => a = o + 1 ∨ a = 2 * o + 119 - d) M M3 := ⟨by rw [f13.1.1]; exact Nat.le_refl _, fun a _ q => ⟨fun k => f13.2.1 a k (by omega), fun k => f13.2.2.2 a k⟩⟩
      have hFC : FC o M M3 := ⟨⟨by rw [f13.1.1]; exact Nat.le_refl _, fun a ha => by rw [f13.1.2]; exact h.2.2.2.2 a (by rw [f13.1.1] at ha; exact ha)⟩, fun a k h1 h2 => f13.2.1 a k (by omega)⟩
      have hg : mnI (nI 60) (nI (X 0 0)) = nI (min 60 (X 0 0)) := mnI_n (by omega) (by omega)
      by_cases ck0 : kk = 0
      · rw [if_pos ck0] at efine
        obtain rfl : ff = 4294967295 := hzk ck0
        obtain ⟨hD3, hA3, hn10⟩ := h4 ck0
        have cc := CItp0 (X' := xE X 4294967295) hr hP hW ht hL hD hv hi ex hn (fun a q => by unfold tpf; omega) (xE_T X 4294967295) (by rw [xE_0]; exact a3) (by rw [xE_1]; exact g5) (fun k q => by rw [xE_0] at q; omega)
        have oo := oStp hO (xE_T X 4294967295) (by rw [xE_0]; omega) (fun k q => by rw [xE_0] at q; omega)
        have r14 : gR M3 o 14 = some d := cc.1.2.2.2.1
        have r15 : gR M3 o 15 = some (2 * o + 119 - d) := cc.1.2.2.2.2
        have s14 : gR (sR (sR M3 o 14 (some (2 * o + 119 - d))) o 15 (some d)) o 14 = some (2 * o + 119 - d) := by rw [gR_ne (Or.inr (by omega)), gR_same]
        have sne : ∀ a k, ¬ (a = o ∧ (k = 14 ∨ k = 15)) → gR (sR (sR M3 o 14 (some (2 * o + 119 - d))) o 15 (some d)) a k = gR M3 a k := fun a k q => by rw [gR_ne (by omega), gR_ne (by omega)]
        have elin := C_lines (M := sR (sR M3 o 14 (some (2 * o + 119 - d))) o 15 (some d)) (d := 2 * o + 119 - d) hD3 hA3.1 hA3.2
        refine agW h (v := nI n) (M' := sR (sR M3 o 14 (some (2 * o + 119 - d))) o 15 (some d)) (S' := (P, W, xD X n A B, V, I)) ?_ ?_ ?_ ⟨hFC.1, hFC.2⟩ (fun M1 hm => ?_)
        · simp (disch := omega) only [f_C_deeds, t1, hg, C_inT, f_C_mustBe, e1, g15, e4, efine, r14, r15, s14, elin, bI_s, bV_s, bL_s, bR_s, bG_s, bG_n, bX_l, bX_r, ck_nI, nI_clamp, nI_leT, nI_leF, nI_ltT, nI_ltF, nI_eqF, nI_add, pk_mul, ofN, bt_e, or0, Nat.zero_add, Nat.add_zero, ↓reduceIte, if_true, if_false, Bool.false_eq_true, eq_self, li0, li1, li2, li3, li4, li5, li6, li7, li8, li9, li10, li11, li12, li14, li15, li16, li18, li19, li20, li23, li24, li25, li26, li27, li30, li31, li32, li36, li40, li41, li42, li43, li44, li45, li47, li48, li57, li59, li60, li91, li93, li96, li97, li100, li105, li122, li150, li200, li255, li400, li500, li600, li999, li1000, li1001, li2000, li2001, li2002, li2003, li2004, li2005, li2006, li32767, li100000, li_neg, li13, li17, li21, li22, li28, li29, li33, li34, li35, li37, li38, li39, li46, li49, li50, li51, li52, li53, li63, li80, li115, li160]
        · refine ⟨p, l, 2 * o + 119 - d, ⟨⟨hp, hl, by omega⟩, ⟨?_, ?_⟩, ⟨?_, ?_⟩, s14, ?_⟩, cc.2.1, ⟨⟨?_, ?_⟩, fun k q => ?_, ⟨?_, ?_, ?_⟩, ?_, ?_⟩, ⟨?_, ?_⟩, fun i q => ?_, fun i q => ?_⟩
          · rw [sne _ _ (by omega)]; exact cc.1.2.1.1
          · rw [sne _ _ (by omega)]; exact cc.1.2.1.2
          · rw [sne _ _ (by omega)]; exact cc.1.2.2.1.1
          · rw [sne _ _ (by omega)]; exact cc.1.2.2.1.2
          · rw [gR_same]; congr 1; omega
          · dsimp only; rw [xD_o (by omega) (by omega) (by omega)]; exact cc.2.2.1.1.1
          · dsimp only; rw [xD_o (by omega) (by omega) (by omega)]; exact cc.2.2.1.1.2
          · dsimp only at q; rw [xD_o (by omega) (by omega) (by omega), xE_0] at q; omega
          · dsimp only; rw [xD_o (by omega) (by omega) (by omega)]; exact cc.2.2.1.2.2.1.1
          · dsimp only; rw [xD_o (by omega) (by omega) (by omega)]; exact cc.2.2.1.2.2.1.2.1
          · dsimp only; rw [xD_o (by omega) (by omega) (by omega)]; exact cc.2.2.1.2.2.1.2.2
          · dsimp only; rw [xD_o (by omega) (by omega) (by omega)]; exact cc.2.2.1.2.2.2.1
          · dsimp only; rw [xD_o (by omega) (by omega) (by omega)]; exact cc.2.2.1.2.2.2.2
          · dsimp only; rw [xD_o (by omega) (by omega) (by omega), xD_r (by omega) (by omega) (by omega)]; exact cc.2.2.2.1.1
          · dsimp only; rw [xD_8, xD_3, xD_4]; exact hD3
          · dsimp only at q ⊢; rw [xD_o (by omega) (by omega) (by omega)] at q
            obtain ⟨w, b1, b2, b3⟩ := cc.2.2.2.2.1 i q
            exact ⟨w, by rw [sne _ _ (by omega)]; exact b1, b2, b3⟩
          · dsimp only at q ⊢; rw [xD_o (by omega) (by omega) (by omega)] at q
            obtain ⟨w, b1, b2, b3, b4, b5⟩ := cc.2.2.2.2.2 i q
            have b6 := b2.1
            refine ⟨w, by rw [sne _ _ (by omega)]; exact b1, b2, b3, b4, fun i2 q2 => ?_⟩
            obtain ⟨w2, b7, b8, b9⟩ := b5 i2 q2
            exact ⟨w2, by rw [sne _ _ (by omega)]; exact b7, b8, b9⟩
        · obtain ⟨q1, ⟨q2, q3⟩, q4, ⟨q5, q6⟩, q7, q8⟩ := oo
          dsimp only at q1 q2 q3 q5 q6 q7 q8
          refine ⟨q1, ⟨⟨?_, fun k q => ?_⟩, ?_⟩, ⟨?_, fun k q => ?_, fun i k z1 z2 => ?_⟩, ⟨?_, fun i q => ?_⟩, ?_, fun i q => ?_⟩
          · dsimp only; rw [xD_o (by omega) (by omega) (by omega)]; exact q2.1
          · dsimp only at q ⊢; rw [xD_o (by omega) (by omega) (by omega), xE_0] at q; omega
          · dsimp only; rw [xD_o (by omega) (by omega) (by omega), xD_r (by omega) (by omega) (by omega)]; exact q3
          · dsimp only; rw [xD_8]; exact hn10
          · dsimp only at q ⊢; rw [xD_8] at q; rw [xD_3, xD_4]; exact hA3.1 k q
          · dsimp only at z2 ⊢; rw [xD_8] at z2; rw [xD_3]; exact hA3.2 i k z1 z2
          · dsimp only; rw [xD_o (by omega) (by omega) (by omega)]; exact q5
          · dsimp only at q ⊢; rw [xD_o (by omega) (by omega) (by omega)] at q; exact q6 i q
          · dsimp only; rw [xD_o (by omega) (by omega) (by omega)]; exact q7
          · dsimp only at q ⊢; rw [xD_o (by omega) (by omega) (by omega)] at q; exact q8 i q
        · obtain ⟨N3, x2, x3, N4, y1, y2, y3, y4, ⟨a'', y5⟩, y6⟩ := mkey M1 hm
          obtain ⟨y7, y8⟩ := y6 ck0
          subst y7
          have z5 := y5.1.2.2.1
          rw [ck0] at z5
          have em := hm1 M1 hm
          have m5 : MJ (sI N4 (o + 61) 3 (nI 4294967295)) (o + 61) (P, W, xE X 4294967295, V, I) := by
            refine MJtp hm hO (fun a k q => ?_) (xE_T X 4294967295) ?_ ?_ (fun k q => ?_)
            · rw [gI_ne (by unfold usd qrg at q; omega), y3.2.1 _ _ (by unfold usd qrg at q; unfold mdD uD; omega)]
            · rw [xE_0, gI_ne (Or.inr (by omega))]; exact y4
            · rw [xE_1, gI_same]
            · rw [xE_0] at q; omega
          obtain ⟨N6, y9, z1, z2⟩ := M_layr (q0 := o + 61 + 376) (q1 := o + 61 + 365) (n := n) (L := 10) hn10 (by omega) (by omega) (sI (sI N4 (o + 61) 3 (nI 4294967295)) (o + 61) 37 (nI n))
          have z3 : ∀ a k, ¬ ((a = o + 61 ∧ k = 37) ∨ (o + 61 + 366 ≤ a ∧ a < o + 61 + 376)) → gI N6 a k = gI (sI N4 (o + 61) 3 (nI 4294967295)) a k := fun a k q => by rw [z1.2.1 _ _ (by omega), gI_ne (by omega)]
          refine ⟨N6, ?_, ?_, ?_, ⟨⟨z1.1.1.trans y3.1.1, z1.1.2.trans y3.1.2⟩, fun a k q => ?_, fun a k _ => (z1.2.2.1 a k).trans (y3.2.2.1 a k), fun a k _ => (z1.2.2.2 a k).trans (y3.2.2.2 a k)⟩⟩
          · have ey : f_M_deeds_f (o + 61) (nI j) (nI n) x3 N4 = some (nI n, N6) := by
              simp (disch := omega) only [f_M_deeds_f, z5, y9, bI_s, bV_s, bL_s, bR_s, bG_s, bG_n, bX_l, bX_r, ck_nI, nI_clamp, nI_leT, nI_leF, nI_ltT, nI_ltF, nI_eqF, nI_add, pk_mul, ofN, bt_e, or0, Nat.zero_add, Nat.add_zero, ↓reduceIte, if_true, if_false, Bool.false_eq_true, eq_self, li0, li1, li2, li3, li4, li5, li6, li7, li8, li9, li10, li11, li12, li14, li15, li16, li18, li19, li20, li23, li24, li25, li26, li27, li30, li31, li32, li36, li40, li41, li42, li43, li44, li45, li47, li48, li57, li59, li60, li91, li93, li96, li97, li100, li105, li122, li150, li200, li255, li400, li500, li600, li999, li1000, li1001, li2000, li2001, li2002, li2003, li2004, li2005, li2006, li32767, li100000, li_neg, li13, li17, li21, li22, li28, li29, li33, li34, li35, li37, li38, li39, li46, li49, li50, li51, li52, li53, li63, li80, li115, li160]
            simp (disch := omega) only [f_M_deeds, f_M_deeds_b, em, M_inT, hm.b0, y1, y2, ey, bI_s, bV_s, bL_s, bR_s, bG_s, bG_n, bX_l, bX_r, ck_nI, nI_clamp, nI_leT, nI_leF, nI_ltT, nI_ltF, nI_eqF, nI_add, pk_mul, ofN, bt_e, or0, Nat.zero_add, Nat.add_zero, ↓reduceIte, if_true, if_false, Bool.false_eq_true, eq_self, li0, li1, li2, li3, li4, li5, li6, li7, li8, li9, li10, li11, li12, li14, li15, li16, li18, li19, li20, li23, li24, li25, li26, li27, li30, li31, li32, li36, li40, li41, li42, li43, li44, li45, li47, li48, li57, li59, li60, li91, li93, li96, li97, li100, li105, li122, li150, li200, li255, li400, li500, li600, li999, li1000, li1001, li2000, li2001, li2002, li2003, li2004, li2005, li2006, li32767, li100000, li_neg, li13, li17, li21, li22, li28, li29, li33, li34, li35, li37, li38, li39, li46, li49, li50, li51, li52, li53, li63, li80, li115, li160]
          · rw [z3 _ _ (by omega), gI_ne (Or.inr (by omega)), y3.2.1 _ _ (by unfold mdD uD; omega)]; exact gI_same ..
          · refine MJdd m5 oo.1.1 oo.1.2 oo.2.1.2 oo.2.2.2.1 oo.2.2.2.2 z3 ⟨fun k q => xD_o (by omega) (by omega) (by omega), xD_r (by omega) (by omega) (by omega), xD_r (by omega) (by omega) (by omega)⟩ ⟨?_, fun k q => ?_⟩
            · rw [xD_8, z1.2.1 _ _ (by omega), gI_same]
            · rw [xD_8] at q
              rw [xD_3, xD_4, (z2 k q).1, (z2 k q).2]
              rw [gI_ne (Or.inl (by omega)), gI_ne (Or.inl (by omega)), gI_ne (Or.inl (by omega)), gI_ne (Or.inl (by omega))]
              exact y8 k q
          · rw [z3 _ _ (by omega), gI_ne (Or.inl (by omega)), y3.2.1 _ _ (by unfold mdD uD; omega)]
      · rw [if_neg ck0] at efine
        refine agW h (v := nI kk - nI 10) (M' := M3) (S' := (P, W, xE X ff, V, I)) ?_ ?_ ?_ hFC (fun M1 hm => ?_)
        · simp (disch := omega) only [f_C_deeds, t1, hg, C_inT, f_C_mustBe, e1, g15, e4, efine, f_Tape_faultAnswer, g4, bI_s, bV_s, bL_s, bR_s, bG_s, bG_n, bX_l, bX_r, ck_nI, nI_clamp, nI_leT, nI_leF, nI_ltT, nI_ltF, nI_eqF, nI_add, pk_mul, ofN, bt_e, or0, Nat.zero_add, Nat.add_zero, ↓reduceIte, if_true, if_false, Bool.false_eq_true, eq_self, li0, li1, li2, li3, li4, li5, li6, li7, li8, li9, li10, li11, li12, li14, li15, li16, li18, li19, li20, li23, li24, li25, li26, li27, li30, li31, li32, li36, li40, li41, li42, li43, li44, li45, li47, li48, li57, li59, li60, li91, li93, li96, li97, li100, li105, li122, li150, li200, li255, li400, li500, li600, li999, li1000, li1001, li2000, li2001, li2002, li2003, li2004, li2005, li2006, li32767, li100000, li_neg, li13, li17, li21, li22, li28, li29, li33, li34, li35, li37, li38, li39, li46, li49, li50, li51, li52, li53, li63, li80, li115, li160]
        · refine CItp hr hP hW ht hL hD hv hi ex hn (fun a q => by unfold tpf; omega) (xE_T X ff) ?_ ?_ (fun k q => ?_)
          · rw [xE_0]; exact a3
          · rw [xE_1]; exact g5
          · rw [xE_0] at q; omega
        · exact oStp hO (xE_T X ff) (by rw [xE_0]; omega) (fun k q => by rw [xE_0] at q; omega)
        · obtain ⟨N3, x2, x3, N4, y1, y2, y3, y4, ⟨a'', y5⟩, _⟩ := mkey M1 hm
          have z5 := y5.1.2.2.1
          have z6 := y5.1.2.2.2
          have em := hm1 M1 hm
          refine ⟨sI N4 (o + 61) 3 (nI ff), ?_, ?_, ?_, ⟨y3.1, fun a k q => ?_, fun a k _ => y3.2.2.1 a k, fun a k _ => y3.2.2.2 a k⟩⟩
          · have ey : f_M_deeds_f (o + 61) (nI j) x2 x3 N4 = some (nI kk - nI 10, sI N4 (o + 61) 3 (nI ff)) := by
              have z7 : gI (sI N4 (o + 61) 3 (nI ff)) (o + 61) 5 = nI kk := by rw [gI_ne (Or.inr (by omega))]; exact z5
              simp (disch := omega) only [f_M_deeds_f, f_M_faulty, z5, z6, z7, bI_s, bV_s, bL_s, bR_s, bG_s, bG_n, bX_l, bX_r, ck_nI, nI_clamp, nI_leT, nI_leF, nI_ltT, nI_ltF, nI_eqF, nI_add, pk_mul, ofN, bt_e, or0, Nat.zero_add, Nat.add_zero, ↓reduceIte, if_true, if_false, Bool.false_eq_true, eq_self, li0, li1, li2, li3, li4, li5, li6, li7, li8, li9, li10, li11, li12, li14, li15, li16, li18, li19, li20, li23, li24, li25, li26, li27, li30, li31, li32, li36, li40, li41, li42, li43, li44, li45, li47, li48, li57, li59, li60, li91, li93, li96, li97, li100, li105, li122, li150, li200, li255, li400, li500, li600, li999, li1000, li1001, li2000, li2001, li2002, li2003, li2004, li2005, li2006, li32767, li100000, li_neg, li13, li17, li21, li22, li28, li29, li33, li34, li35, li37, li38, li39, li46, li49, li50, li51, li52, li53, li63, li80, li115, li160]
            simp (disch := omega) only [f_M_deeds, f_M_deeds_b, em, M_inT, hm.b0, y1, y2, ey, bI_s, bV_s, bL_s, bR_s, bG_s, bG_n, bX_l, bX_r, ck_nI, nI_clamp, nI_leT, nI_leF, nI_ltT, nI_ltF, nI_eqF, nI_add, pk_mul, ofN, bt_e, or0, Nat.zero_add, Nat.add_zero, ↓reduceIte, if_true, if_false, Bool.false_eq_true, eq_self, li0, li1, li2, li3, li4, li5, li6, li7, li8, li9, li10, li11, li12, li14, li15, li16, li18, li19, li20, li23, li24, li25, li26, li27, li30, li31, li32, li36, li40, li41, li42, li43, li44, li45, li47, li48, li57, li59, li60, li91, li93, li96, li97, li100, li105, li122, li150, li200, li255, li400, li500, li600, li999, li1000, li1001, li2000, li2001, li2002, li2003, li2004, li2005, li2006, li32767, li100000, li_neg, li13, li17, li21, li22, li28, li29, li33, li34, li35, li37, li38, li39, li46, li49, li50, li51, li52, li53, li63, li80, li115, li160]
          · rw [gI_ne (Or.inr (by omega)), y3.2.1 _ _ (by unfold mdD uD; omega)]; exact gI_same ..
          · refine MJtp hm hO (fun a k q => ?_) (xE_T X ff) ?_ ?_ (fun k q => ?_)
            · rw [gI_ne (by unfold usd qrg at q; omega), y3.2.1 _ _ (by unfold usd qrg at q; unfold mdD uD; omega)]
            · rw [xE_0, gI_ne (Or.inr (by omega))]; exact y4
            · rw [xE_1, gI_same]
            · rw [xE_0] at q; omega
          · rw [gI_ne (Or.inl (by omega)), y3.2.1 _ _ (by unfold mdD uD; omega)]
    · have hg : mnI (nI 60) (nI (X 0 0)) = nI (min 60 (X 0 0)) := mnI_n (by omega) (by omega)
      refine agE1 h (cc := 1) rfl rfl (by omega) ?_ (nI 0) (fun M1 hm => ?_)
      · simp (disch := omega) only [f_C_deeds, f_C_isWithin, t1, hg, f_C_mustBe, t6, bI_s, bV_s, bL_s, bR_s, bG_s, bG_n, bX_l, bX_r, ck_nI, nI_clamp, nI_leT, nI_leF, nI_ltT, nI_ltF, nI_eqF, nI_add, pk_mul, ofN, bt_e, or0, Nat.zero_add, Nat.add_zero, ↓reduceIte, if_true, if_false, Bool.false_eq_true, eq_self, li0, li1, li2, li3, li4, li5, li6, li7, li8, li9, li10, li11, li12, li14, li15, li16, li18, li19, li20, li23, li24, li25, li26, li27, li30, li31, li32, li36, li40, li41, li42, li43, li44, li45, li47, li48, li57, li59, li60, li91, li93, li96, li97, li100, li105, li122, li150, li200, li255, li400, li500, li600, li999, li1000, li1001, li2000, li2001, li2002, li2003, li2004, li2005, li2006, li32767, li100000, li_neg, li13, li17, li21, li22, li28, li29, li33, li34, li35, li37, li38, li39, li46, li49, li50, li51, li52, li53, li63, li80, li115, li160]
      · have em := hm1 M1 hm
        simp (disch := omega) only [f_M_deeds, f_M_deeds_b, em, M_inT, hm.b11, bI_s, bV_s, bL_s, bR_s, bG_s, bG_n, bX_l, bX_r, ck_nI, nI_clamp, nI_leT, nI_leF, nI_ltT, nI_ltF, nI_eqF, nI_add, pk_mul, ofN, bt_e, or0, Nat.zero_add, Nat.add_zero, ↓reduceIte, if_true, if_false, Bool.false_eq_true, eq_self, li0, li1, li2, li3, li4, li5, li6, li7, li8, li9, li10, li11, li12, li14, li15, li16, li18, li19, li20, li23, li24, li25, li26, li27, li30, li31, li32, li36, li40, li41, li42, li43, li44, li45, li47, li48, li57, li59, li60, li91, li93, li96, li97, li100, li105, li122, li150, li200, li255, li400, li500, li600, li999, li1000, li1001, li2000, li2001, li2002, li2003, li2004, li2005, li2006, li32767, li100000, li_neg, li13, li17, li21, li22, li28, li29, li33, li34, li35, li37, li38, li39, li46, li49, li50, li51, li52, li53, li63, li80, li115, li160]
  · have hg : mnI (nI 60) (nI (X 0 0)) = nI (min 60 (X 0 0)) := mnI_n (by omega) (by omega)
    have w3 : ∀ M, f_C_isWithin p0 (nI 0) (nI (min 60 (X 0 0))) M = some (nI 0, M) := by
      rcases wth p0 0 (min 60 (X 0 0)) (by omega) (by omega) with ⟨j, _, hj, rfl⟩ | ⟨w3, _⟩
      · intro N
        have q1 := w2 N
        rw [M_inT (by omega) (by omega) (by omega)] at q1
        have q2 : nI 1 = nI 0 := congrArg Prod.fst (Option.some.inj q1)
        exact absurd q2 (by decide)
      · exact w3
    refine agE1 h (cc := 1) rfl rfl (by omega) ?_ (nI 0) (fun M1 hm => ?_)
    · simp (disch := omega) only [f_C_deeds, t1, hg, w3, f_C_mustBe, t6, bI_s, bV_s, bL_s, bR_s, bG_s, bG_n, bX_l, bX_r, ck_nI, nI_clamp, nI_leT, nI_leF, nI_ltT, nI_ltF, nI_eqF, nI_add, pk_mul, ofN, bt_e, or0, Nat.zero_add, Nat.add_zero, ↓reduceIte, if_true, if_false, Bool.false_eq_true, eq_self, li0, li1, li2, li3, li4, li5, li6, li7, li8, li9, li10, li11, li12, li14, li15, li16, li18, li19, li20, li23, li24, li25, li26, li27, li30, li31, li32, li36, li40, li41, li42, li43, li44, li45, li47, li48, li57, li59, li60, li91, li93, li96, li97, li100, li105, li122, li150, li200, li255, li400, li500, li600, li999, li1000, li1001, li2000, li2001, li2002, li2003, li2004, li2005, li2006, li32767, li100000, li_neg, li13, li17, li21, li22, li28, li29, li33, li34, li35, li37, li38, li39, li46, li49, li50, li51, li52, li53, li63, li80, li115, li160]
    · have em := hm1 M1 hm
      simp (disch := omega) only [f_M_deeds, f_M_deeds_b, em, w2, hm.b11, bI_s, bV_s, bL_s, bR_s, bG_s, bG_n, bX_l, bX_r, ck_nI, nI_clamp, nI_leT, nI_leF, nI_ltT, nI_ltF, nI_eqF, nI_add, pk_mul, ofN, bt_e, or0, Nat.zero_add, Nat.add_zero, ↓reduceIte, if_true, if_false, Bool.false_eq_true, eq_self, li0, li1, li2, li3, li4, li5, li6, li7, li8, li9, li10, li11, li12, li14, li15, li16, li18, li19, li20, li23, li24, li25, li26, li27, li30, li31, li32, li36, li40, li41, li42, li43, li44, li45, li47, li48, li57, li59, li60, li91, li93, li96, li97, li100, li105, li122, li150, li200, li255, li400, li500, li600, li999, li1000, li1001, li2000, li2001, li2002, li2003, li2004, li2005, li2006, li32767, li100000, li_neg, li13, li17, li21, li22, li28, li29, li33, li34, li35, li37, li38, li39, li46, li49, li50, li51, li52, li53, li63, li80, li115, li160]
end
