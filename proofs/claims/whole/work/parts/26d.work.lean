/-! # functional level, 77: the class reads steps -/
section
variable {M M' M1 M2 N : Mm} {t q p E a k f n c op : Nat} {T : Nat → Nat} {B P : TT} {ρ : Nat → Nat → Nat → Int32 → Mm → Option Mm} {ρ' : Nat → Nat → TT → Ov} {F : Mm → Option Mm} {φ : Nat → Nat → TT → Ov}
def SC (t q p : Nat) (P : TT) (T : Nat → Nat) (E : Nat) (F : Mm → Option Mm) (φ : Nat → Nat → TT → Ov) : Prop :=
  (∀ M a n B, CTp M t T E a 0 4294967295 → isPl M q n B → isP M p P → 6 * n ≤ a → ∃ M', F M = some M' ∧ FX (plD t q) M M' ∧ cW M' t q T E (φ a n B)) ∧
  ∀ M a k f, k ≠ 0 → CTp M t T E a k f → ∃ M' a', F M = some M' ∧ FX (plD t q) M M' ∧ CTp M' t T E a' k f
theorem isP.pl (hP : isP M p P) (g : FX (plD t q) M N) (h1 : t < p) (h2 : q + 5 ≤ p) : isP N p P := hP.fr g.fr (fun x h3 h4 z => by obtain ⟨j, z⟩ := z; unfold plD tD at z; omega)
theorem C_numb {p0 p1 : Int32} (h : CTp M t T E a k f) : ∃ M', f_Tape_number t p0 p1 M = some (nI (nV T E a), M') ∧ FX (tD t) M M' ∧ CTp M' t T E (nE T E a) (nO k f T E a p0 p1).1 (nO k f T E a p0 p1).2 := C_number h
theorem SC_step (ht : t + 1 < q) (hq : q + 5 ≤ p) (hE : E ≤ 150) (oP : okP P) (hop : op ≤ 6) (hρ : op < 6 → SC t q p P T E (ρ q t p (nI (op + 1))) ρ') (hg : op < 6 → ∀ a n B, a ≤ E → gWl P E (op + 1) a n B (ρ' a n B)) : SC t q p P T E (fun M => bV (f_Plan_readStep ρ q t p (nI op) M) (fun M1 => f_Tape_needSign t (nI 59) M1)) (wT0 ρ' P T E op) := by
  refine ⟨fun M a n B h1 h2 h3 h4 => ?_, fun M a k f hk h1 => ?_⟩
  · have ha := h1.2.2.1.1
    have hT := h1.2.2.2
    have hs := sk_b (T := T) ha
    have hcl := cR_len (T := T) ha
    have hr := oP.r
    have hb := oP.b
    have hw := oP.w
    obtain ⟨l0, l1, l2, l3, l4⟩ := kst_len (cR T E a)
    have k5 := kst_5 (cR T E a)
    dsimp only
    unfold wT0
    by_cases c0 : kst (cR T E a) = 0
    · rw [if_pos c0]
      have l0 := l0 c0
      obtain ⟨M1, f1, g1, e1⟩ := C_sw0 (ρ := ρ) (q := q) (p := p) (x := nI op) h1 c0
      rw [e1]
      have P1 := h3.td f1 (by omega)
      have w1 := P1.w
      obtain ⟨M2, e2, f2, g2⟩ := C_numb (p0 := nI 0) (p1 := nI (P 0 5) - nI 1) g1
      have P2 := P1.td f2 (by omega)
      have w2 := P2.b
      obtain ⟨M3, e3, f3, g3⟩ := C_numb (p0 := nI 0) (p1 := nI (P 0 2) - nI 1) g2
      have P3 := P2.td f3 (by omega)
      have w3 := P3.r
      obtain ⟨M4, e4, f4, g4⟩ := C_numb (p0 := nI 0) (p1 := nI (P 0 0) - nI 1) g3
      have f14 := ((f1.trans f2).trans f3).trans f4
      have L4 := h2.td f14 (by omega)
      have eb : ∀ X : Option Mm, f_Plan_put q t (nI 0) (nI (nV T E (sk T E a + (cR T E a).length))) (nI (nV T E (nE T E (sk T E a + (cR T E a).length)))) (nI (nV T E (nE T E (nE T E (sk T E a + (cR T E a).length))))) M4 = X → bI (f_Tape_number t (nI 0) (gI M1 p 5 - nI 1) M1) (fun z44 M42 => bI (f_Tape_number t (nI 0) (gI M42 p 2 - nI 1) M42) (fun z47 M45 => bI (f_Tape_number t (nI 0) (gI M45 p 0 - nI 1) M45) (fun z50 M48 => f_Plan_put q t (nI 0) z44 z47 z50 M48))) = X := fun X hX => by
        rw [w1, e2, bI_s, w2, e3, bI_s, w3, e4, bI_s]; exact hX
      have fault : ∀ {kk ff : Nat}, kk ≠ 0 → (∃ a', CTp M4 t T E a' kk ff) → ∃ M', bV (bI (f_Tape_number t (nI 0) (gI M1 p 5 - nI 1) M1) (fun z44 M42 => bI (f_Tape_number t (nI 0) (gI M42 p 2 - nI 1) M42) (fun z47 M45 => bI (f_Tape_number t (nI 0) (gI M45 p 0 - nI 1) M45) (fun z50 M48 => f_Plan_put q t (nI 0) z44 z47 z50 M48)))) (fun M1 => f_Tape_needSign t (nI 59) M1) = some M' ∧ FX (plD t q) M M' ∧ cW M' t q T E (kk, ff, 0, n, B) := fun {kk ff} hk hh => by
        obtain ⟨a', hh⟩ := hh
        refine ⟨M4, ?_, f14.tq, Or.inr ⟨hk, a', hh⟩⟩
        rw [eb _ (C_plputF hh hk _ _ _ _), bV_s]
        exact C_needF hh hk _
      by_cases k1 : nK T E (sk T E a + (cR T E a).length) (nI 0) (nI (P 0 5) - nI 1) = 0
      · rw [nmW_s k1]
        rw [nO_0 k1] at g2 g3 g4
        by_cases k2 : nK T E (nE T E (sk T E a + (cR T E a).length)) (nI 0) (nI (P 0 2) - nI 1) = 0
        · rw [nmW_s k2]
          rw [nO_0 k2] at g3 g4
          by_cases k3 : nK T E (nE T E (nE T E (sk T E a + (cR T E a).length))) (nI 0) (nI (P 0 0) - nI 1) = 0
          · rw [nmW_s k3]
            rw [nO_0 k3] at g4
            obtain ⟨M5, e5, f5, g5, L5⟩ := C_plput (k := 0) (z1 := nI (nV T E (sk T E a + (cR T E a).length))) (z2 := nI (nV T E (nE T E (sk T E a + (cR T E a).length)))) (z3 := nI (nV T E (nE T E (nE T E (sk T E a + (cR T E a).length))))) (B' := bSt B n 0 (nV T E (sk T E a + (cR T E a).length)) (nV T E (nE T E (sk T E a + (cR T E a).length))) (nV T E (nE T E (nE T E (sk T E a + (cR T E a).length)))) (n + 1)) ht g4 L4 (by omega) (fun i k' hk' => bSt_o (by omega)) bSt_0 (by
                rw [bSt_1, bSt_2, bSt_3]
                exact ⟨fun _ => ⟨rfl, rfl, rfl⟩, fun z => by omega, fun z => by omega, fun z => by omega⟩)
            obtain ⟨M6, e6, f6, r6⟩ := C_sgW (c := 59) (by omega) (by omega) g5 L5
            refine ⟨M6, ?_, (f14.tq.trans (f5.mono (fun _ _ z => Or.inr z))).trans f6, r6⟩
            rw [eb _ e5, bV_s]; exact e6
          · rw [nmW_f k3]
            rw [nO_1 k3] at g4
            dsimp only at g4
            exact fault k3 ⟨_, g4⟩
        · rw [nmW_f k2]
          rw [nO_1 k2, nO_F k2] at g4
          dsimp only at g4
          exact fault k2 ⟨_, g4⟩
      · rw [nmW_f k1]
        rw [nO_1 k1, nO_F k1, nO_F k1] at g4
        dsimp only at g4
        exact fault k1 ⟨_, g4⟩
    · rw [if_neg c0]
      by_cases c1 : kst (cR T E a) = 1
      · rw [if_pos c1]
        have l1 := l1 c1
        obtain ⟨M1, f1, g1, e1⟩ := C_sw1 (ρ := ρ) (q := q) (p := p) (x := nI op) h1 c1
        rw [e1]
        have w1 := (h3.td f1 (by omega)).b
        obtain ⟨M2, e2, f2, g2⟩ := C_numb (p0 := nI 0) (p1 := nI (P 0 2) - nI 1) g1
        have f12 := f1.trans f2
        have L2 := h2.td f12 (by omega)
        rw [w1, e2, bI_s]
        by_cases k1 : nK T E (sk T E a + (cR T E a).length) (nI 0) (nI (P 0 2) - nI 1) = 0
        · rw [nmW_s k1]
          rw [nO_0 k1] at g2
          obtain ⟨M5, e5, f5, g5, L5⟩ := C_plput (k := 1) (z1 := nI (nV T E (sk T E a + (cR T E a).length))) (z2 := nI 0) (z3 := nI 0) (B' := bSt B n 1 0 (nV T E (sk T E a + (cR T E a).length)) 0 (n + 1)) ht g2 L2 (by have := nE_b (T := T) hcl; have := nE_gt hcl k1; omega) (fun i k' hk' => bSt_o (by omega)) bSt_0 (by
              rw [bSt_2]
              exact ⟨fun z => by omega, fun _ => rfl, fun z => by omega, fun z => by omega⟩)
          obtain ⟨M6, e6, f6, r6⟩ := C_sgW (c := 59) (by omega) (by omega) g5 L5
          refine ⟨M6, ?_, (f12.tq.trans (f5.mono (fun _ _ z => Or.inr z))).trans f6, r6⟩
          rw [e5, bV_s]; exact e6
        · rw [nmW_f k1]
          rw [nO_1 k1] at g2
          refine ⟨M2, ?_, f12.tq, Or.inr ⟨k1, _, g2⟩⟩
          rw [C_plputF g2 k1, bV_s]; exact C_needF g2 k1 _
      · rw [if_neg c1]
        by_cases c2 : kst (cR T E a) = 2
        · rw [if_pos c2]
          have l2 := l2 c2
          obtain ⟨M1, f1, g1, e1⟩ := C_sw2 (ρ := ρ) (q := q) (p := p) (x := nI op) h1 c2
          rw [e1]
          obtain ⟨M2, e2, f2, g2⟩ := C_numb (p0 := nI 1) (p1 := nI 4) g1
          have f12 := f1.trans f2
          have L2 := h2.td f12 (by omega)
          rw [e2, bI_s]
          by_cases k1 : nK T E (sk T E a + (cR T E a).length) (nI 1) (nI 4) = 0
          · rw [nmW_s k1]
            rw [nO_0 k1] at g2
            obtain ⟨M5, e5, f5, g5, L5⟩ := C_plput (k := 2) (z1 := nI (nV T E (sk T E a + (cR T E a).length))) (z2 := nI 0) (z3 := nI 0) (B' := bSt B n 2 (nV T E (sk T E a + (cR T E a).length)) 0 0 (n + 1)) ht g2 L2 (by have := nE_b (T := T) hcl; have := nE_gt hcl k1; omega) (fun i k' hk' => bSt_o (by omega)) bSt_0 (by
                rw [bSt_1]
                exact ⟨fun z => by omega, fun z => by omega, fun _ => rfl, fun z => by omega⟩)
            obtain ⟨M6, e6, f6, r6⟩ := C_sgW (c := 59) (by omega) (by omega) g5 L5
            refine ⟨M6, ?_, (f12.tq.trans (f5.mono (fun _ _ z => Or.inr z))).trans f6, r6⟩
            rw [e5, bV_s]; exact e6
          · rw [nmW_f k1]
            rw [nO_1 k1] at g2
            refine ⟨M2, ?_, f12.tq, Or.inr ⟨k1, _, g2⟩⟩
            rw [C_plputF g2 k1, bV_s]; exact C_needF g2 k1 _
        · rw [if_neg c2]
          by_cases c3 : kst (cR T E a) = 3
          · rw [if_pos c3]
            have l3 := l3 c3
            obtain ⟨M1, f1, g1, e1⟩ := C_sw3 (ρ := ρ) (q := q) (p := p) (x := nI op) h1 c3
            rw [e1]
            have L1 := h2.td f1 (by omega)
            obtain ⟨M5, e5, f5, g5, L5⟩ := C_plput (k := 3) (z1 := nI 0) (z2 := nI 0) (z3 := nI 0) (B' := bSt B n 3 0 0 0 (n + 1)) ht g1 L1 (by omega) (fun i k' hk' => bSt_o (by omega)) bSt_0 ⟨fun z => by omega, fun z => by omega, fun z => by omega, fun z => by omega⟩
            obtain ⟨M6, e6, f6, r6⟩ := C_sgW (c := 59) (by omega) (by omega) g5 L5
            refine ⟨M6, ?_, (f1.tq.trans (f5.mono (fun _ _ z => Or.inr z))).trans f6, r6⟩
            rw [e5, bV_s]; exact e6
          · rw [if_neg c3]
            by_cases c4 : kst (cR T E a) = 4
            · rw [if_pos c4]
              have l4 := l4 c4
              obtain ⟨M1, f1, g1, e1⟩ := C_sw4 (ρ := ρ) (q := q) (p := p) (x := nI op) h1 c4
              rw [e1]
              have L1 := h2.td f1 (by omega)
              have P1 := h3.td f1 (by omega)
              by_cases c6 : 6 ≤ op
              · rw [if_pos c6, if_neg (nI_nlt c6 (by omega))]
                obtain ⟨M2, e2, f2, g2⟩ := C_wrong g1 (k1 := 3) (f1 := sk T E a) (by omega)
                have g2 : CTp M2 t T E (sk T E a + (cR T E a).length) 3 (sk T E a) := g2
                refine ⟨M2, ?_, (f1.trans f2).tq, Or.inr ⟨by show (3 : Nat) ≠ 0; omega, _, g2⟩⟩
                rw [e2, bV_s]; exact C_needF g2 (by omega) _
              · rw [if_neg c6, if_pos (nI_lt (by omega) (by omega)), show nI op + nI 1 = nI (op + 1) from nI_add op 1]
                have rc := hρ (by omega)
                have rg := hg (by omega)
                obtain ⟨M2, e2, f2, g2⟩ := C_numb (p0 := nI 0) (p1 := nI 30) g1
                have f12 := f1.trans f2
                have L2 := h2.td f12 (by omega)
                have m1 := L1.1
                have fault : ∀ (M4 : Mm) {kk ff : Nat}, kk ≠ 0 → FX (plD t q) M M4 → (∃ a', CTp M4 t T E a' kk ff) → ∃ M', bV (bV (ρ q t p (nI (op + 1)) M4) (fun M8 => bI (f_Tape_isFine t M8) (fun z12 M10 => if z12 = nI 0 then some M10 else (if gI M10 q 4 ≤ nI n then some M10 else some (sI M10 (q + 3) n (gI M10 q 4)))))) (fun M1 => f_Tape_needSign t (nI 59) M1) = some M' ∧ FX (plD t q) M M' ∧ (∃ a', CTp M' t T E a' kk ff) := fun M4 {kk ff} hk fx hh => by
                  obtain ⟨a', hh⟩ := hh
                  obtain ⟨M5, a5, e5, f5, g5⟩ := rc.2 M4 a' kk ff hk hh
                  have ef := C_fine g5
                  rw [if_neg hk] at ef
                  refine ⟨M5, ?_, fx.trans f5, _, g5⟩
                  rw [e5, bV_s, ef, bI_s, if_pos rfl, bV_s]
                  exact C_needF g5 hk _
                have era : ∀ (M3 M4 : Mm), f_Tape_needSign t (nI 91) M2 = some M3 → f_Plan_put q t (nI 4) (nI (nV T E (sk T E a + (cR T E a).length))) (nI 0) (nI 0) M3 = some M4 → f_Plan_readAgain ρ q t p (nI (op + 1)) M1 = bV (ρ q t p (nI (op + 1)) M4) (fun M8 => bI (f_Tape_isFine t M8) (fun z12 M10 => if z12 = nI 0 then some M10 else (if gI M10 q 4 ≤ nI n then some M10 else some (sI M10 (q + 3) n (gI M10 q 4))))) := fun M3 M4 x1 x2 => by
                  have n25 : n < 25 := by omega
                  simp (disch := omega) only [f_Plan_readAgain, e2, x1, x2, m1, bI_s, bV_s, bL_s, bR_s, bG_s, bG_n, bX_l, bX_r, ck_nI, nI_clamp, nI_leT, nI_leF, nI_ltT, nI_ltF, nI_eqF, nI_add, pk_mul, ofN, bt_e, or0, Nat.zero_add, Nat.add_zero, ↓reduceIte, if_true, if_false, Bool.false_eq_true, eq_self, li0, li1, li2, li3, li4, li5, li6, li7, li8, li9, li10, li11, li12, li14, li15, li16, li18, li19, li20, li23, li24, li25, li26, li27, li30, li31, li32, li36, li40, li41, li42, li43, li44, li45, li47, li48, li57, li59, li60, li91, li93, li96, li97, li100, li105, li122, li150, li200, li255, li400, li500, li600, li999, li1000, li1001, li2000, li2001, li2002, li2003, li2004, li2005, li2006, li32767, li100000, li_neg, li13, li17, li21, li22, li28, li29, li33, li34, li35, li37, li38, li39, li46, li49, li50, li51, li52, li53, li63, li80, li115, li160]
                by_cases k1 : nK T E (sk T E a + (cR T E a).length) (nI 0) (nI 30) = 0
                · rw [nmW_s k1]
                  have b1 := nE_b (T := T) hcl
                  have b2 := nE_gt hcl k1
                  rw [nO_0 k1] at g2
                  have g2 : CTp M2 t T E (nE T E (sk T E a + (cR T E a).length)) 0 4294967295 := g2
                  by_cases k2 : sk T E (nE T E (sk T E a + (cR T E a).length)) < E ∧ T (sk T E (nE T E (sk T E a + (cR T E a).length))) = 91
                  · have sp : sgW T E 91 (nE T E (sk T E a + (cR T E a).length)) (n + 1) (bSt B n 4 (nV T E (sk T E a + (cR T E a).length)) 0 0 0) = (0, 4294967295, sk T E (nE T E (sk T E a + (cR T E a).length)) + 1, n + 1, bSt B n 4 (nV T E (sk T E a + (cR T E a).length)) 0 0 0) := if_pos k2
                    rw [sp, bW_s rfl]
                    dsimp only
                    obtain ⟨M3, e3, f3, g3⟩ := C_needY g2 k2.1 k2.2
                    have L3 := L2.td f3 (by omega)
                    have hs2 := sk_b (T := T) b1.2
                    obtain ⟨M5, e5, f5, g5, L5⟩ := C_plput (k := 4) (z1 := nI (nV T E (sk T E a + (cR T E a).length))) (z2 := nI 0) (z3 := nI 0) (B' := bSt B n 4 (nV T E (sk T E a + (cR T E a).length)) 0 0 0) ht g3 L3 (by omega) (fun i k' hk' => bSt_o (by omega)) bSt_0 (by
                        rw [bSt_1, bSt_4]
                        exact ⟨fun z => by omega, fun z => by omega, fun z => by omega, fun _ => ⟨rfl, rfl⟩⟩)
                    have f15 : FX (plD t q) M M5 := (f12.trans f3).tq.trans (f5.mono (fun _ _ z => Or.inr z))
                    have P5 := h3.pl f15 (by omega) hq
                    rw [era M3 M5 e3 e5]
                    obtain ⟨M6, e6, f6, r6⟩ := rc.1 M5 _ _ _ g5 L5 P5 (by omega)
                    have gr := rg (sk T E (nE T E (sk T E a + (cR T E a).length)) + 1) (n + 1) (bSt B n 4 (nV T E (sk T E a + (cR T E a).length)) 0 0 0) (by omega)
                    generalize ρ' (sk T E (nE T E (sk T E a + (cR T E a).length)) + 1) (n + 1) (bSt B n 4 (nV T E (sk T E a + (cR T E a).length)) 0 0 0) = r at r6 gr ⊢
                    rcases r6 with ⟨c7, g7, L7⟩ | ⟨c7, a7, g7⟩
                    · rw [bW_s c7]
                      obtain ⟨⟨y1, y2, y3⟩, ⟨y4, y5⟩, _⟩ := gr c7
                      have ef := C_fine g7
                      rw [if_pos rfl] at ef
                      have m7 := L7.1
                      have fx8 : FX (fun a j => (a = q ∧ j = 4) ∨ (q + 1 ≤ a ∧ a < q + 5)) M6 (sI M6 (q + 3) n (nI r.2.2.2.1)) := (FX.rf _ M6).sI (by omega)
                      have L8 : isPl (sI M6 (q + 3) n (nI r.2.2.2.1)) q r.2.2.2.1 (up r.2.2.2.2 4 n r.2.2.2.1) := by
                        refine ⟨by rw [gI_ne (by omega)]; exact L7.1, fun k hk => ?_⟩
                        have u := L7.2 k hk
                        by_cases ck : k = n
                        · subst ck
                          have k4 : r.2.2.2.2 0 k = 4 := by rw [y5 0 k (by omega), bSt_0]
                          rw [gI_ne (by omega), gI_ne (by omega), gI_same, gI_ne (by omega), up_n (by omega), up_n (by omega), up_n (by omega), up_n (by omega), up_s]
                          exact ⟨u.1, fun z => by omega, fun z => by omega, fun z => by omega, fun z => ⟨(u.2.2.2.2 z).1, rfl⟩⟩
                        · rw [gI_ne (by omega), gI_ne (by omega), gI_ne (by omega), gI_ne (by omega), up_n (by omega), up_n (by omega), up_n (by omega), up_n (by omega), up_n (by omega)]
                          exact u
                      obtain ⟨M9, e9, f9, r9⟩ := C_sgW (c := 59) (by omega) (by omega) (g7.fx fx8 (fun j z => by omega) (fun j z => by omega)) L8
                      refine ⟨M9, ?_, ((f15.trans f6).trans (fx8.mono (fun _ _ z => Or.inr z))).trans f9, r9⟩
                      rw [e6, bV_s, ef, bI_s, if_neg (by decide), m7, if_neg (nI_ge (by omega) (by omega)), bV_s]
                      exact e9
                    · rw [bW_f c7]
                      have ef := C_fine g7
                      rw [if_neg c7] at ef
                      refine ⟨M6, ?_, f15.trans f6, Or.inr ⟨c7, a7, g7⟩⟩
                      rw [e6, bV_s, ef, bI_s, if_pos rfl, bV_s]
                      exact C_needF g7 c7 _
                  · have sp : sgW T E 91 (nE T E (sk T E a + (cR T E a).length)) (n + 1) (bSt B n 4 (nV T E (sk T E a + (cR T E a).length)) 0 0 0) = (1, sk T E (nE T E (sk T E a + (cR T E a).length)), 0, n + 1, bSt B n 4 (nV T E (sk T E a + (cR T E a).length)) 0 0 0) := if_neg k2
                    rw [sp, bW_f (by show (1 : Nat) ≠ 0; omega)]
                    obtain ⟨M3, e3, f3, g3⟩ := C_needN g2 (by omega) k2
                    rw [era M3 M3 e3 (C_plputF g3 (by omega) _ _ _ _)]
                    obtain ⟨M5, e5, f5, g5⟩ := fault M3 (by omega) (f12.trans f3).tq ⟨_, g3⟩
                    exact ⟨M5, e5, f5, Or.inr ⟨by show (1 : Nat) ≠ 0; omega, g5⟩⟩
                · rw [nmW_f k1]
                  rw [nO_1 k1] at g2
                  rw [era M2 M2 (C_needF g2 k1 _) (C_plputF g2 k1 _ _ _ _)]
                  obtain ⟨M5, e5, f5, g5⟩ := fault M2 k1 f12.tq ⟨_, g2⟩
                  exact ⟨M5, e5, f5, Or.inr ⟨k1, g5⟩⟩
            · rw [if_neg c4]
              obtain ⟨M1, f1, g1, e1⟩ := C_sw5 (ρ := ρ) (q := q) (p := p) (x := nI op) h1 (by omega)
              rw [e1]
              obtain ⟨M2, e2, f2, g2⟩ := C_wrong g1 (k1 := 1) (f1 := sk T E a) (by omega)
              have g2 : CTp M2 t T E (sk T E a) 1 (sk T E a) := g2
              refine ⟨M2, ?_, (f1.trans f2).tq, Or.inr ⟨by show (1 : Nat) ≠ 0; omega, _, g2⟩⟩
              rw [e2, bV_s]; exact C_needF g2 (by omega) _
  · obtain ⟨M1, f1, ⟨a', g1⟩, e1⟩ := C_swF (ρ := ρ) (q := q) (p := p) (x := nI op) h1 hk
    refine ⟨M1, a', ?_, f1.tq, g1⟩
    dsimp only
    rw [e1, bV_s]; exact C_needF g1 hk _
end
