/-! # functional level, 84: work agrees -/
section
variable {M M' M1 M2 N : Mm} {o m p l d : Nat} {S : St} {P W X : TT} {V : Nat → TT} {I : Nat → Nat → TT}
/-- the rest of a state behind a work -/
def xK (X : TT) (rf : Nat) : TT := up (up (xE X 4294967295) 0 5 (X 0 5 + 1)) 0 2 rf
theorem xK_r {rf i : Nat} (h : i ≠ 0) (_ : i ≠ 1) : xK X rf i = X i := by unfold xK xE; rw [up_row h, up_row h, up_row h, up_row h]
theorem xK_0 {rf : Nat} : xK X rf 0 0 = 0 := by unfold xK; rw [up_n (by omega), up_n (by omega), xE_0]
theorem xK_1 {rf : Nat} : xK X rf 0 1 = 4294967295 := by unfold xK; rw [up_n (by omega), up_n (by omega), xE_1]
theorem xK_2 {rf : Nat} : xK X rf 0 2 = rf := up_s ..
theorem xK_5 {rf : Nat} : xK X rf 0 5 = X 0 5 + 1 := by unfold xK; rw [up_n (by omega), up_s]
theorem xK_o {rf k : Nat} (h0 : 2 < k) (h5 : k ≠ 5) : xK X rf 0 k = X 0 k := by unfold xK xE; rw [up_n (by omega), up_n (by omega), up_n (by omega), up_n (by omega)]
def vK (V : Nat → TT) (n : Nat) (W : TT) : Nat → TT := fun i => if i = n then W else V i
theorem vK_s {n : Nat} : vK V n W n = W := if_pos rfl
theorem vK_n {n i : Nat} (h : i ≠ n) : vK V n W i = V i := if_neg h
theorem A_work (h : InvS o M S) (p0 : Int32) : Ag cd1 Int32.toInt64 o (fun k => k = 1) (f_C_work o p0 M) (fun M1 => f_M_work (o + 61) p0 M1) := by
  obtain ⟨P, W, X, V, I⟩ := S
  obtain ⟨p, l, d, hr, ⟨hP, hW⟩, ht, ⟨hL, hD⟩, hv, hi⟩ := id h.1
  dsimp only at hP hW ht hL hD hv hi
  have t1 := ht.1.1
  have t5 := ht.2.2.1.2.1
  have t6 := ht.2.2.1.2.2
  have t7 := ht.2.2.2.1
  have t8 := ht.2.2.2.2
  have hO := h.2.2.1
  have hn := h.2.2.2.1
  have hz := h.2.2.2.2
  have oP : okP P := hO.1.1
  have oW : okD P W := hO.1.2
  have o16 : X 0 5 ≤ 16 := hO.2.2.2.1.1
  have hX6 : X 0 0 ≤ 600 := hO.2.1.1.1
  have hXb : ∀ k, k < X 0 0 → X 1 k < 256 := hO.2.1.1.2
  have hp := hr.1.1
  have hl := hr.1.2.1
  have hd := hr.1.2.2
  have l150 : (150 : Int32) = nI 150 := rfl
  have hg : mnI (nI 150) (nI (X 0 0)) = nI (min 150 (X 0 0)) := mnI_n (by omega) (by omega)
  have hm1 : ∀ M1, MJ (sI M1 (o + 61) 0 (nI 0)) (o + 61) (P, W, X, V, I) → gI (sI M1 (o + 61) 0 (nI 0)) (o + 61) 1 = nI (X 0 0) := fun M1 hm => hm.2.1.1.1
  have hm38 : ∀ M1, MJ (sI M1 (o + 61) 0 (nI 0)) (o + 61) (P, W, X, V, I) → gI (sI M1 (o + 61) 0 (nI 0)) (o + 61) 38 = nI (X 0 5) := fun M1 hm => hm.2.1.2.2.2.1
  rcases wth p0 0 (X 0 0) (by omega) (by omega) with ⟨j, _, hj, rfl⟩ | ⟨w1, w2⟩
  · by_cases c60 : j ≤ 150
    · by_cases c16 : X 0 5 = 16
      · rw [c16] at t7
        obtain ⟨N1, e1, f1, a1, h1⟩ := C_open (N := M) (t := o + 1) (T := X 1) (j := 0) (by omega) (fun i hi => by omega) (fun i hi => by omega)
        have ex1 : eqx (fun a => a = o + 1) M N1 := ⟨by rw [f1.1.1]; exact Nat.le_refl _, fun a _ q => ⟨fun k => f1.2.1 a k (by omega), fun k => f1.2.2.2 a k⟩⟩
        refine agW h (v := -(nI 20)) (M' := N1) (S' := (P, W, xE X 4294967295, V, I)) ?_ ?_ ?_ ⟨⟨by rw [f1.1.1]; exact Nat.le_refl _, fun a ha => by rw [f1.1.2]; exact hz a (by rw [f1.1.1] at ha; exact ha)⟩, fun a k h1 h2 => f1.2.1 a k (by omega)⟩ (fun M1 hm => ?_)
        · simp (disch := omega) only [f_C_work, l150, t1, hg, C_inT, f_C_mustBe, t7, e1, bI_s, bV_s, bL_s, bR_s, bG_s, bG_n, bX_l, bX_r, ck_nI, nI_clamp, nI_leT, nI_leF, nI_ltT, nI_ltF, nI_eqF, nI_add, pk_mul, ofN, bt_e, or0, Nat.zero_add, Nat.add_zero, ↓reduceIte, if_true, if_false, Bool.false_eq_true, eq_self, li0, li1, li2, li3, li4, li5, li6, li7, li8, li9, li10, li11, li12, li14, li15, li16, li18, li19, li20, li23, li24, li25, li26, li27, li30, li31, li32, li36, li40, li41, li42, li43, li44, li45, li47, li48, li57, li59, li60, li91, li93, li96, li97, li100, li105, li122, li150, li200, li255, li400, li500, li600, li999, li1000, li1001, li2000, li2001, li2002, li2003, li2004, li2005, li2006, li32767, li100000, li_neg, li13, li17, li21, li22, li28, li29, li33, li34, li35, li37, li38, li39, li46, li49, li50, li51, li52, li53, li63, li80, li115, li160]
        · refine CItp hr hP hW ht hL hD hv hi ex1 hn (fun a q => by unfold tpf; omega) (xE_T X 4294967295) ?_ ?_ (fun k q => ?_)
          · rw [xE_0]; exact a1
          · rw [xE_1]; exact h1.1.2.2.2
          · rw [xE_0] at q; omega
        · exact oStp hO (xE_T X 4294967295) (by rw [xE_0]; omega) (fun k q => by rw [xE_0] at q; omega)
        · have em := hm1 M1 hm
          have e38 := hm38 M1 hm
          rw [c16] at e38
          refine ⟨sI (sI (sI M1 (o + 61) 0 (nI 0)) (o + 61) 1 (nI 0)) (o + 61) 3 (nI 4294967295), ?_, ?_, ?_, ⟨⟨rfl, rfl⟩, fun a k q => ?_, fun a k _ => rfl, fun a k _ => rfl⟩⟩
          · simp (disch := omega) only [f_M_work, f_M_work_b, l150, em, M_inT, hm.b0, e38, bI_s, bV_s, bL_s, bR_s, bG_s, bG_n, bX_l, bX_r, ck_nI, nI_clamp, nI_leT, nI_leF, nI_ltT, nI_ltF, nI_eqF, nI_add, pk_mul, ofN, bt_e, or0, Nat.zero_add, Nat.add_zero, ↓reduceIte, if_true, if_false, Bool.false_eq_true, eq_self, li0, li1, li2, li3, li4, li5, li6, li7, li8, li9, li10, li11, li12, li14, li15, li16, li18, li19, li20, li23, li24, li25, li26, li27, li30, li31, li32, li36, li40, li41, li42, li43, li44, li45, li47, li48, li57, li59, li60, li91, li93, li96, li97, li100, li105, li122, li150, li200, li255, li400, li500, li600, li999, li1000, li1001, li2000, li2001, li2002, li2003, li2004, li2005, li2006, li32767, li100000, li_neg, li13, li17, li21, li22, li28, li29, li33, li34, li35, li37, li38, li39, li46, li49, li50, li51, li52, li53, li63, li80, li115, li160]
          · rw [gI_ne (by omega), gI_ne (by omega)]; exact gI_same ..
          · refine MJtp hm hO (fun a k q => ?_) (xE_T X 4294967295) ?_ ?_ (fun k q => ?_)
            · rw [gI_ne (by unfold usd qrg at q; omega), gI_ne (by unfold usd qrg at q; omega)]
            · rw [xE_0, gI_ne (by omega), gI_same]
            · rw [xE_1, gI_same]
            · rw [xE_0] at q; omega
          · rw [gI_ne (by omega), gI_ne (by omega)]
      · have c16' : X 0 5 < 16 := by omega
        obtain ⟨N1, e1, f1, a1, h1⟩ := C_open (N := M) (t := o + 1) (T := X 1) (j := j) (by omega) (fun i hi => ht.2.1 i (by omega)) (fun i hi => hXb i (by omega))
        have g10 : gR N1 o 10 = some p := by rw [f1.2.2.2]; exact hr.2.1.1
        have P1 : isP N1 p P := hP.fr f1.fr (fun x h1 h2 q => by obtain ⟨_, q⟩ := q; omega)
        have key := C_wread (q := o + 3) (by omega) (by omega) c60 oP h1 P1
        have mkey : ∀ M1, MJ (sI M1 (o + 61) 0 (nI 0)) (o + 61) (P, W, X, V, I) → ∃ N3 N5, f_M_starts (o + 61) (nI j) (sI M1 (o + 61) 0 (nI 0)) = some N3 ∧ f_M_work_c FU (o + 61) (nI j) (sI N3 (o + 61) 32 (nI 0)) = f_M_work_d (o + 61) (nI j) N5 ∧ FX (fun a k => wkD (o + 61) a k ∨ (a = o + 61 ∧ (k = 1 ∨ k = 2 ∨ (4 ≤ k ∧ k ≤ 8)))) (sI M1 (o + 61) 0 (nI 0)) N5 ∧ gI N5 (o + 61) 1 = nI 0 ∧ mW N5 (o + 61) (X 1) j 0 (wkz P (X 1) j) := by
          intro M1 hm
          obtain ⟨N3, q1, q2, q3, ⟨_, q4⟩, q5⟩ := M_starts (N := sI M1 (o + 61) 0 (nI 0)) (m := o + 61) (T := X 1) (j := j) (by omega) (fun i hi => hm.2.1.2.1 i (by show i < X 0 0; omega)) (fun i hi => hXb i (by omega))
          have t3 : pt3 N3 (o + 61) P := ⟨by rw [q2.2.1 _ _ (by omega)]; exact hm.1.1.r, by rw [q2.2.1 _ _ (by omega)]; exact hm.1.1.b, by rw [q2.2.1 _ _ (by omega)]; exact hm.1.1.w⟩
          obtain ⟨N5, y1, y2, y3⟩ := M_wread (p0 := nI j) c60 oP q5 q4 t3
          refine ⟨N3, N5, q1, y1, (q2.mono (fun _ _ q => Or.inr q)).trans (y2.mono (fun _ _ q => Or.inl q)), ?_, y3⟩
          rw [y2.2.1 _ _ (by unfold wkD uD; omega)]; exact q3
        have hok := wkz_ok (T := X 1) (E := j) h1.2.2.2 c60 oP
        generalize wkz P (X 1) j = r at key mkey hok
        obtain ⟨kk, ff, aa, n, B⟩ := r
        dsimp only at hok
        obtain ⟨M3, e3, f3, h3⟩ := key
        have f13 : FX (fun a k => (a = o + 1 ∧ 1 ≤ k) ∨ (o + 3 ≤ a ∧ a < o + 8)) M M3 := (f1.mono (fun a k q => Or.inl ⟨q.1, q.2.1⟩)).trans (f3.mono (fun a k q => by unfold plD tD at q; show (a = o + 1 ∧ 1 ≤ k) ∨ (o + 3 ≤ a ∧ a < o + 8); omega))
        have a3 : gI M3 (o + 1) 1 = nI 0 := by rw [f3.2.1 _ _ (by unfold plD tD; omega)]; exact a1
        have n3 : nx M3 = nx M := f13.1.1
        have ex3 : eqx (fun a => a = o + 1 ∨ (o + 3 ≤ a ∧ a < o + 8)) M M3 := ⟨by rw [n3]; exact Nat.le_refl _, fun a _ q => ⟨fun k => f13.2.1 a k (by omega), fun k => f13.2.2.2 a k⟩⟩
        have hz3 : kz M3 := fun a ha => by rw [f13.1.2]; exact hz a (by rw [f13.1.1] at ha; exact ha)
        rcases h3 with ⟨ck0, h4, L3⟩ | ⟨ck0, a', h4⟩
        · dsimp only at ck0 h4 L3
          obtain ⟨n25, u0, wf0⟩ := hok ck0
          have wf : wfs P B n 6 0 n := by
            have z := wfs_cut _ _ _ _ wf0
            rw [Nat.sub_zero] at z; exact z
          have efine := C_fine h4
          rw [if_pos rfl] at efine
          have P3 : isP M3 p P := hP.eqx ex3 (fun a h1 h2 => ⟨by omega, by omega⟩)
          have W3 : isW M3 (o + 8) P W := hW.eqx ex3 (fun a h1 h2 => ⟨by omega, by omega⟩)
          have w3 : gI M3 (o + 16) 1 = nI (X 0 5) := by rw [f13.2.1 _ _ (by omega)]; exact t7
          obtain ⟨M4, e4, ⟨n4, _⟩, W4, lo4, hz4⟩ := C_copied (q := o + 8) W3 (by omega) hz3 oP oW.1
          have w4 : gI M4 (o + 16) 1 = nI (X 0 5) := by rw [(lo4 _ (by omega)).2.1]; exact w3
          have E4 : ∀ a, a < nx M3 → (∀ j, gI M4 a j = gI M3 a j) ∧ ∀ j, gR M4 a j = gR M3 a j := fun a ha => ⟨(lo4 a ha).2.1, (lo4 a ha).2.2.2⟩
          have ek : f_Past_keepWork (o + 16) (o + 8) M3 = some (sI (sR M4 (o + 16 + 1) (X 0 5) (some (nx M3))) (o + 16) 1 (nI (X 0 5 + 1))) := by
            have w5 : gI (sR M4 (o + 16 + 1) (X 0 5) (some (nx M3))) (o + 16) 1 = nI (X 0 5) := w4
            simp (disch := omega) only [f_Past_keepWork, w3, e4, w5, bI_s, bV_s, bL_s, bR_s, bG_s, bG_n, bX_l, bX_r, ck_nI, nI_clamp, nI_leT, nI_leF, nI_ltT, nI_ltF, nI_eqF, nI_add, pk_mul, ofN, bt_e, or0, Nat.zero_add, Nat.add_zero, ↓reduceIte, if_true, if_false, Bool.false_eq_true, eq_self, li0, li1, li2, li3, li4, li5, li6, li7, li8, li9, li10, li11, li12, li14, li15, li16, li18, li19, li20, li23, li24, li25, li26, li27, li30, li31, li32, li36, li40, li41, li42, li43, li44, li45, li47, li48, li57, li59, li60, li91, li93, li96, li97, li100, li105, li122, li150, li200, li255, li400, li500, li600, li999, li1000, li1001, li2000, li2001, li2002, li2003, li2004, li2005, li2006, li32767, li100000, li_neg, li13, li17, li21, li22, li28, li29, li33, li34, li35, li37, li38, li39, li46, li49, li50, li51, li52, li53, li63, li80, li115, li160]
          have fr5 : Fr (fun a => a = o + 16 ∨ a = o + 17) M4 (sI (sR M4 (o + 16 + 1) (X 0 5) (some (nx M3))) (o + 16) 1 (nI (X 0 5 + 1))) := ((Fr.rf _ M4).sR (by omega)).sI (by omega)
          have ex5 : eqx (fun a => a = o + 16 ∨ a = o + 17) M3 (sI (sR M4 (o + 16 + 1) (X 0 5) (some (nx M3))) (o + 16) 1 (nI (X 0 5 + 1))) := ⟨by rw [fr5.1.1]; omega, fun a ha q => ⟨fun k => by rw [fr5.i q, (E4 a ha).1], fun k => by rw [fr5.r q, (E4 a ha).2]⟩⟩
          have hkg : ∀ k, k ≠ X 0 5 → gR (sI (sR M4 (o + 16 + 1) (X 0 5) (some (nx M3))) (o + 16) 1 (nI (X 0 5 + 1))) (o + 17) k = gR M3 (o + 17) k := fun k hk => by
            show gR (sR M4 (o + 16 + 1) (X 0 5) (some (nx M3))) (o + 17) k = _
            rw [gR_ne (by omega), (E4 _ (by omega)).2]
          have hkn : gR (sI (sR M4 (o + 16 + 1) (X 0 5) (some (nx M3))) (o + 16) 1 (nI (X 0 5 + 1))) (o + 17) (X 0 5) = some (nx M3) := gR_same ..
          have v1 : gI (sI (sR M4 (o + 16 + 1) (X 0 5) (some (nx M3))) (o + 16) 1 (nI (X 0 5 + 1))) (o + 16) 1 = nI (X 0 5 + 1) := gI_same ..
          have v3 : gI (sI (sR M4 (o + 16 + 1) (X 0 5) (some (nx M3))) (o + 16) 1 (nI (X 0 5 + 1))) (o + 16) 3 = nI (X 0 6) := by
            rw [gI_ne (by omega)]
            show gI M4 (o + 16) 3 = _
            rw [(E4 _ (by omega)).1, f13.2.1 _ _ (by omega)]; exact t8
          have n5 : nx (sI (sR M4 (o + 16 + 1) (X 0 5) (some (nx M3))) (o + 16) 1 (nI (X 0 5 + 1))) = nx M + 8 := by rw [fr5.1.1, n4, n3]
          have hz5 : kz (sI (sR M4 (o + 16 + 1) (X 0 5) (some (nx M3))) (o + 16) 1 (nI (X 0 5 + 1))) := hz4
          have W5c : isW (sI (sR M4 (o + 16 + 1) (X 0 5) (some (nx M3))) (o + 16) 1 (nI (X 0 5 + 1))) (nx M3) P W := W4.fr fr5 (fun x h1 h2 z => by omega)
          generalize sI (sR M4 (o + 16 + 1) (X 0 5) (some (nx M3))) (o + 16) 1 (nI (X 0 5 + 1)) = M5 at ek fr5 ex5 hkg hkn v1 v3 n5 hz5 W5c
          have P5 : isP M5 p P := P3.eqx ex5 (fun a h1 h2 => ⟨by omega, by omega⟩)
          have W5 : isW M5 (o + 8) P W := W3.eqx ex5 (fun a h1 h2 => ⟨by omega, by omega⟩)
          have L5 : isPl M5 (o + 3) n B := L3.mv ((ex5.2 _ (by omega) (by omega)).1 _) (fun i k h1 h2 _ => (ex5.2 _ (by omega) (by omega)).1 _)
          have g10' : gR M5 o 10 = some p := by rw [(ex5.2 _ (by omega) (by omega)).2, f13.2.2.2]; exact hr.2.1.1
          obtain ⟨M7, e7, D7, X7, x7⟩ := C_carry (q := o + 3) (w := o + 8) (by omega) (by omega) oP n25 wf L5 P5 W5 oW
          have mex : ∀ (M0 : Mm), isSt M0 (o + 61) n B → isQ M0 (o + 61) P → mX M0 (o + 61) P (W, 0, 0, 0) → ∃ M', f_M_goes 8 (o + 61) (nI 0) (nI n) M0 = some M' ∧ mD (o + 61) M0 M' ∧ mX M' (o + 61) P (ex P B n 0 n (W, 0, 0, 0)) := fun M0 b1 b2 b3 => by
            obtain ⟨M', b4, b5, b6, _⟩ := M_exec (m := o + 61) oP n25 n 7 6 0 n 0 (nI 0) FU M0 (W, 0, 0, 0) wf (by omega) (by omega) (Nat.le_refl _) (FU_lt (by omega)) n25 b1 b2 b3 ⟨oW, by show (0 : Nat) ≤ 200; omega⟩
            exact ⟨M', b4, b5, b6⟩
          generalize ex P B n 0 n (W, 0, 0, 0) = s at X7 x7 mex
          obtain ⟨W', bg, dn, rf⟩ := s
          obtain ⟨W7, _, y6, y7⟩ := X7
          dsimp only at W7 y6 y7
          obtain ⟨oW', _⟩ := x7
          dsimp only at oW'
          have n7 : nx M7 = nx M + 8 := by rw [D7.1.1.1]; exact n5
          have fr8 : Fr (fun a => a = o + 3 ∨ rg (o + 8) 8 a ∨ a = o) M5 (sI M7 o 16 (nI rf)) := (D7.1.mono (fun a z => by rcases z with z | z; exact Or.inl z; exact Or.inr (Or.inl z))).sI (Or.inr (Or.inr rfl))
          have ex8 : eqx (fun a => a = o + 3 ∨ rg (o + 8) 8 a ∨ a = o) M5 (sI M7 o 16 (nI rf)) := fr8.eqx (fun a z => z)
          have ex38 : eqx (fun a => a = o + 3 ∨ rg (o + 8) 8 a ∨ a = o ∨ a = o + 16 ∨ a = o + 17) M3 (sI M7 o 16 (nI rf)) := ⟨by show nx M3 ≤ nx M7; omega, fun a ha q => by
            have q1 : ¬ (a = o + 3 ∨ rg (o + 8) 8 a ∨ a = o) := fun z => q (by rcases z with z | z | z; exact Or.inl z; exact Or.inr (Or.inl z); exact Or.inr (Or.inr (Or.inl z)))
            have q2 : ¬ (a = o + 16 ∨ a = o + 17) := fun z => q (Or.inr (Or.inr (Or.inr z)))
            exact ⟨fun k => by rw [fr8.i q1, (ex5.2 a ha q2).1], fun k => by rw [fr8.r q1, (ex5.2 a ha q2).2]⟩⟩
          have ex08 : eqx (fun a => a = o + 1 ∨ (o + 3 ≤ a ∧ a < o + 8) ∨ rg (o + 8) 8 a ∨ a = o ∨ a = o + 16 ∨ a = o + 17) M (sI M7 o 16 (nI rf)) := ⟨by show nx M ≤ nx M7; omega, fun a ha q => by
            have q1 : ¬ (a = o + 3 ∨ rg (o + 8) 8 a ∨ a = o ∨ a = o + 16 ∨ a = o + 17) := fun z => q (by unfold rg at z ⊢; omega)
            have q2 : ¬ (a = o + 1 ∨ (o + 3 ≤ a ∧ a < o + 8)) := fun z => q (by unfold rg; omega)
            exact ⟨fun k => by rw [(ex38.2 a (by omega) q1).1, (ex3.2 a ha q2).1], fun k => by rw [(ex38.2 a (by omega) q1).2, (ex3.2 a ha q2).2]⟩⟩
          have Ro : ∀ k, gR (sI M7 o 16 (nI rf)) o k = gR M o k := fun k => by
            show gR M7 o k = _
            rw [D7.1.r (by unfold rg; omega), (ex5.2 o (by omega) (by omega)).2, f13.2.2.2]
          have Io : ∀ k, k ≠ 16 → gI (sI M7 o 16 (nI rf)) o k = gI M o k := fun k hk => by
            rw [gI_ne (by omega), D7.1.i (by unfold rg; omega), (ex5.2 o (by omega) (by omega)).1, f13.2.1 _ _ (by omega)]
          have i16 : ∀ k, gI (sI M7 o 16 (nI rf)) (o + 16) k = gI M5 (o + 16) k := fun k => fr8.i (by unfold rg; omega) k
          have r17 : ∀ k, gR (sI M7 o 16 (nI rf)) (o + 17) k = gR M5 (o + 17) k := fun k => fr8.r (by unfold rg; omega) k
          have v6 : gI (sI M7 o 16 (nI rf)) (o + 3) 6 = nI dn := by rw [gI_ne (by omega)]; exact y6
          refine agW h (v := nI dn) (M' := sI M7 o 16 (nI rf)) (S' := (P, W', xK X rf, vK V (X 0 5) W, I)) ?_ ?_ ?_ ⟨⟨by show nx M ≤ nx M7; omega, fun a ha => ?_⟩, fun a k h1 h2 => (ex08.2 a (by omega) (by unfold rg; omega)).1 k⟩ (fun M1 hm => ?_)
          · have c16n : X 0 5 ≠ 16 := c16
            simp (disch := omega) only [f_C_work, l150, t1, hg, C_inT, f_C_mustBe, t7, nI_eqF c16n, e1, g10, e3, efine, ek, g10', e7, y7, v6, bI_s, bV_s, bL_s, bR_s, bG_s, bG_n, bX_l, bX_r, ck_nI, nI_clamp, nI_leT, nI_leF, nI_ltT, nI_ltF, nI_eqF, nI_add, pk_mul, ofN, bt_e, or0, Nat.zero_add, Nat.add_zero, ↓reduceIte, if_true, if_false, Bool.false_eq_true, eq_self, li0, li1, li2, li3, li4, li5, li6, li7, li8, li9, li10, li11, li12, li14, li15, li16, li18, li19, li20, li23, li24, li25, li26, li27, li30, li31, li32, li36, li40, li41, li42, li43, li44, li45, li47, li48, li57, li59, li60, li91, li93, li96, li97, li100, li105, li122, li150, li200, li255, li400, li500, li600, li999, li1000, li1001, li2000, li2001, li2002, li2003, li2004, li2005, li2006, li32767, li100000, li_neg, li13, li17, li21, li22, li28, li29, li33, li34, li35, li37, li38, li39, li46, li49, li50, li51, li52, li53, li63, li80, li115, li160]
          · refine CIwl h.1 ⟨⟨xK_o (by omega) (by omega), xK_o (by omega) (by omega)⟩, xK_r (by omega) (by omega), xK_r (by omega) (by omega), xK_r (by omega) (by omega)⟩ (fun a h1 h2 h3 j => (ex08.2 a (by omega) (by unfold rg; omega)).1 j) Ro ⟨⟨?_, ?_⟩, fun k hk => ?_, ⟨?_, ?_, ?_⟩, ?_, ?_⟩ ?_ (fun i hi' => ?_) ?_
            · rw [(ex38.2 _ (by omega) (by unfold rg; omega)).1, xK_0]; exact a3
            · rw [(ex38.2 _ (by omega) (by unfold rg; omega)).1, xK_1]; exact h4.1.2.2.2
            · rw [xK_0] at hk; omega
            · rw [xK_2]; exact gI_same ..
            · rw [Io _ (by omega), xK_o (by omega) (by omega)]; exact t5
            · rw [Io _ (by omega), xK_o (by omega) (by omega)]; exact t6
            · rw [i16, xK_5]; exact v1
            · rw [i16, xK_o (by omega) (by omega)]; exact v3
            · exact W7.fr ((Fr.rf (fun x => x = o) M7).sI rfl) (fun x h1 h2 z => by omega)
            · rw [xK_5] at hi'
              by_cases ci : i = X 0 5
              · subst ci
                refine ⟨nx M3, by rw [r17]; exact hkn, ⟨by omega, by show nx M3 + 8 ≤ nx M7; omega⟩, ?_⟩
                rw [vK_s]
                exact W5c.eqx ex8 (fun a h1 h2 => ⟨by omega, by unfold rg; omega⟩)
              · obtain ⟨w, b1, b2, b3⟩ := hv i (by omega)
                have b4 := b2.1
                have b5 := b2.2
                refine ⟨w, by rw [r17, hkg i ci, f13.2.2.2]; exact b1, b2.mv (by show nx M ≤ nx M7; omega), ?_⟩
                rw [vK_n ci]
                exact b3.eqx ex08 (fun a h1 h2 => ⟨by omega, by unfold rg; omega⟩)
            · have h8 : CIi M o P (xK X rf) I := fun j hj => hi j (by rw [xK_o (by omega) (by omega)] at hj; exact hj)
              exact h8.mv ex08 hn (by unfold rg; omega) (fun a ha => by unfold rg; omega)
          · obtain ⟨⟨_, _⟩, ⟨o1, o2⟩, o3, ⟨o4, o5⟩, o6, o7⟩ := hO
            dsimp only at o1 o2 o3 o4 o5 o6 o7
            refine ⟨⟨oP, oW'⟩, ⟨⟨?_, fun k q => ?_⟩, ?_⟩, ?_, ⟨?_, fun i hi' => ?_⟩, ?_, fun j hj => ?_⟩
            · dsimp only; rw [xK_0]; omega
            · dsimp only at q; rw [xK_0] at q; omega
            · dsimp only; rw [xK_o (by omega) (by omega), xK_r (by omega) (by omega)]; exact o2
            · dsimp only; rw [xK_o (by omega) (by omega), xK_r (by omega) (by omega), xK_r (by omega) (by omega)]; exact o3
            · dsimp only; rw [xK_5]; omega
            · dsimp only at hi' ⊢; rw [xK_5] at hi'
              by_cases ci : i = X 0 5
              · rw [ci, vK_s]; exact oW
              · rw [vK_n ci]; exact o5 i (by omega)
            · dsimp only; rw [xK_o (by omega) (by omega)]; exact o6
            · dsimp only at hj ⊢; rw [xK_o (by omega) (by omega)] at hj; exact o7 j hj
          · have ha' : nx M7 ≤ a := ha
            show (kd M7 a).1 = 0
            rw [D7.1.1.2]; exact hz5 a (by omega)
          · obtain ⟨N3, N5, u1, u2, u3, u4, u5⟩ := mkey M1 hm
            rcases u5 with ⟨_, z1, L5m, _⟩ | ⟨q, _⟩
            · dsimp only at z1 L5m
              have z5 := z1.1.2.2.1
              have em := hm1 M1 hm
              have e38 := hm38 M1 hm
              obtain ⟨⟨m1, m2⟩, ⟨⟨b1, b2⟩, b3, ⟨b4, b5, b6⟩, b7, b8⟩, ⟨m5, m6⟩, m7, m8⟩ := id hm
              dsimp only at m1 m2 b1 b2 b3 b4 b5 b6 b7 b8 m5 m6 m7 m8
              have hb0 := hm.b0
              have sm0 : gI (sI M1 (o + 61) 0 (nI 0)) (o + 61) 0 = nI 0 := gI_same ..
              have q38 : gI (sI N5 (o + 61) 3 (nI 4294967295)) (o + 61) 38 = nI (X 0 5) := by rw [gI_ne (by omega), u3.2.1 _ _ (by unfold wkD uD; omega)]; exact b7
              obtain ⟨N6, y1, y2, y3⟩ := M_copies (M := sI N5 (o + 61) 3 (nI 4294967295)) (a := o + 61 + 470) (b := o + 61 + 472 + 1 + X 0 5) (by omega)
              have q38' : gI N6 (o + 61) 38 = nI (X 0 5) := by rw [y3.i (by omega)]; exact q38
              have f6 : ∀ a k, ¬ wkD (o + 61) a k → ¬ (a = o + 61 ∧ (k = 1 ∨ k = 2 ∨ k = 3 ∨ (4 ≤ k ∧ k ≤ 8))) → a ≠ o + 61 + 472 + 1 + X 0 5 → gI N6 a k = gI (sI M1 (o + 61) 0 (nI 0)) a k := fun a k h1 h2 h3 => by
                rw [y3.i h3, gI_ne (by omega), u3.2.1 _ _ (fun z => by rcases z with z | z; exact h1 z; omega)]
              have f7 : ∀ a k, ¬ (a = o + 61 ∧ (k = 38 ∨ k = 39 ∨ k = 42 ∨ k = 43)) → gI (sI (sI (sI (sI N6 (o + 61) 38 (nI (X 0 5 + 1))) (o + 61) 42 (nI 0)) (o + 61) 43 (nI 0)) (o + 61) 39 (nI 0)) a k = gI N6 a k := fun a k h1 => by
                rw [gI_ne (by omega), gI_ne (by omega), gI_ne (by omega), gI_ne (by omega)]
              have Q7 : isQ (sI (sI (sI (sI N6 (o + 61) 38 (nI (X 0 5 + 1))) (o + 61) 42 (nI 0)) (o + 61) 43 (nI 0)) (o + 61) 39 (nI 0)) (o + 61) P := by
                have e : ∀ a k, qrg (o + 61) a → gI (sI (sI (sI (sI N6 (o + 61) 38 (nI (X 0 5 + 1))) (o + 61) 42 (nI 0)) (o + 61) 43 (nI 0)) (o + 61) 39 (nI 0)) a k = gI (sI M1 (o + 61) 0 (nI 0)) a k := fun a k q => by
                  rw [f7 _ _ (by unfold qrg at q; omega), f6 _ _ (by unfold qrg at q; unfold wkD uD; omega) (by unfold qrg at q; omega) (by unfold qrg at q; omega)]
                have hB := oP.b
                have hWw := oP.w
                refine ⟨⟨?_, ?_, ?_⟩, fun k hk => ?_, fun k hk => ⟨?_, ?_⟩, fun k hk => ⟨?_, ?_, ?_⟩, fun k hk => ?_⟩
                · rw [e _ _ (by unfold qrg; omega)]; exact m1.r
                · rw [e _ _ (by unfold qrg; omega)]; exact m1.b
                · rw [e _ _ (by unfold qrg; omega)]; exact m1.w
                · rw [e _ _ (by unfold qrg; omega)]; exact m1.wide hk
                · rw [e _ _ (by unfold qrg; omega)]; exact m1.act hk
                · rw [e _ _ (by unfold qrg; omega)]; exact m1.len hk
                · rw [e _ _ (by unfold qrg; omega)]; exact m1.rch hk
                · rw [e _ _ (by unfold qrg; omega)]; exact m1.chk hk
                · rw [e _ _ (by unfold qrg; omega)]; exact m1.kn hk
                · rw [e _ _ (by unfold qrg; omega)]; exact m1.kin hk
              have S7 : isSt (sI (sI (sI (sI N6 (o + 61) 38 (nI (X 0 5 + 1))) (o + 61) 42 (nI 0)) (o + 61) 43 (nI 0)) (o + 61) 39 (nI 0)) (o + 61) n B := L5m.mv (by rw [f7 _ _ (by omega), y3.i (by omega), gI_ne (by omega)]) (fun k j hk => by rw [f7 _ _ (by omega), y3.i (by omega), gI_ne (by omega)])
              have X7m : mX (sI (sI (sI (sI N6 (o + 61) 38 (nI (X 0 5 + 1))) (o + 61) 42 (nI 0)) (o + 61) 43 (nI 0)) (o + 61) 39 (nI 0)) (o + 61) P (W, 0, 0, 0) := by
                refine ⟨isNr.cg m2 oP oW.1 (fun k _ => ?_), ?_, ?_, ?_⟩
                · rw [f7 _ _ (by omega), f6 _ _ (by unfold wkD uD; omega) (by omega) (by omega)]
                · simp (disch := omega) only [gI_same, gI_ne, gI_eq2, gR_sI, gL_sI, gI_sL, gR_sL, gI_sR, gL_sR]
                · simp (disch := omega) only [gI_same, gI_ne, gI_eq2, gR_sI, gL_sI, gI_sL, gR_sL, gI_sR, gL_sR]
                · exact gI_same ..
              obtain ⟨N8, r1, r2, r3, r4, r5, r6⟩ := mex _ S7 Q7 X7m
              dsimp only at r3 r4 r5 r6
              have n32 : gI (sI (sI (sI (sI N6 (o + 61) 38 (nI (X 0 5 + 1))) (o + 61) 42 (nI 0)) (o + 61) 43 (nI 0)) (o + 61) 39 (nI 0)) (o + 61) 32 = nI n := S7.1
              have f8 : ∀ a k, a ≠ o + 61 → a ≠ o + 61 + 470 → gI N8 a k = gI N6 a k := fun a k h1 h2 => by rw [r2.1.i (by omega), f7 _ _ (by omega)]
              have g8 : ∀ k, k ≠ 38 → k ≠ 39 → k ≠ 42 → k ≠ 43 → gI N8 (o + 61) k = gI N6 (o + 61) k := fun k h1 h2 h3 h4 => by rw [r2.2 k h2 h3 h4, f7 _ _ (by omega)]
              refine ⟨N8, ?_, ?_, ?_, ⟨⟨r2.1.1.1.trans (y3.1.1.trans u3.1.1), r2.1.1.2.trans (y3.1.2.trans u3.1.2)⟩, fun a k q => ?_, fun a k q => ?_, fun a k q => ?_⟩⟩
              · have ey : f_M_work_d (o + 61) (nI j) N5 = some (nI dn, N8) := by
                  simp (disch := omega) only [f_M_work_d, z5, q38, y1, q38', n32, r1, r5, bI_s, bV_s, bL_s, bR_s, bG_s, bG_n, bX_l, bX_r, ck_nI, nI_clamp, nI_leT, nI_leF, nI_ltT, nI_ltF, nI_eqF, nI_add, pk_mul, ofN, bt_e, or0, Nat.zero_add, Nat.add_zero, ↓reduceIte, if_true, if_false, Bool.false_eq_true, eq_self, li0, li1, li2, li3, li4, li5, li6, li7, li8, li9, li10, li11, li12, li14, li15, li16, li18, li19, li20, li23, li24, li25, li26, li27, li30, li31, li32, li36, li40, li41, li42, li43, li44, li45, li47, li48, li57, li59, li60, li91, li93, li96, li97, li100, li105, li122, li150, li200, li255, li400, li500, li600, li999, li1000, li1001, li2000, li2001, li2002, li2003, li2004, li2005, li2006, li32767, li100000, li_neg, li13, li17, li21, li22, li28, li29, li33, li34, li35, li37, li38, li39, li46, li49, li50, li51, li52, li53, li63, li80, li115, li160]
                have c16n : X 0 5 ≠ 16 := c16
                simp (disch := omega) only [f_M_work, f_M_work_b, l150, em, M_inT, hb0, e38, nI_eqF c16n, u1, u2, ey, bI_s, bV_s, bL_s, bR_s, bG_s, bG_n, bX_l, bX_r, ck_nI, nI_clamp, nI_leT, nI_leF, nI_ltT, nI_ltF, nI_eqF, nI_add, pk_mul, ofN, bt_e, or0, Nat.zero_add, Nat.add_zero, ↓reduceIte, if_true, if_false, Bool.false_eq_true, eq_self, li0, li1, li2, li3, li4, li5, li6, li7, li8, li9, li10, li11, li12, li14, li15, li16, li18, li19, li20, li23, li24, li25, li26, li27, li30, li31, li32, li36, li40, li41, li42, li43, li44, li45, li47, li48, li57, li59, li60, li91, li93, li96, li97, li100, li105, li122, li150, li200, li255, li400, li500, li600, li999, li1000, li1001, li2000, li2001, li2002, li2003, li2004, li2005, li2006, li32767, li100000, li_neg, li13, li17, li21, li22, li28, li29, li33, li34, li35, li37, li38, li39, li46, li49, li50, li51, li52, li53, li63, li80, li115, li160]
              · rw [g8 _ (by omega) (by omega) (by omega) (by omega), f6 _ _ (by unfold wkD uD; omega) (by omega) (by omega)]; exact sm0
              · refine MJwl hm oP hO.2.1.2 hO.2.2.1.1 ⟨⟨xK_o (by omega) (by omega), xK_o (by omega) (by omega)⟩, xK_r (by omega) (by omega), xK_r (by omega) (by omega), xK_r (by omega) (by omega)⟩ (fun a k q => ?_) ⟨⟨?_, ?_⟩, fun k hk => ?_, ⟨?_, ?_, ?_⟩, ?_, ?_⟩ r3 (fun i hi' => ?_) (fun j hj => ?_)
                · by_cases ca : a = o + 61
                  · subst ca
                    rw [g8 _ (by unfold qrg at q; omega) (by unfold qrg at q; omega) (by unfold qrg at q; omega) (by unfold qrg at q; omega), f6 _ _ (by unfold qrg at q; unfold wkD uD; omega) (by unfold qrg at q; omega) (by omega)]
                  · rw [f8 _ _ ca (by unfold qrg at q; omega), f6 _ _ (by unfold qrg at q; unfold wkD uD; omega) (by omega) (by unfold qrg at q; omega)]
                · rw [xK_0, g8 _ (by omega) (by omega) (by omega) (by omega), y3.i (by omega), gI_ne (by omega)]; exact u4
                · rw [xK_1, g8 _ (by omega) (by omega) (by omega) (by omega), y3.i (by omega), gI_same]
                · rw [xK_0] at hk; omega
                · rw [xK_2]; exact r6
                · rw [f8 _ _ (by omega) (by omega), f6 _ _ (by unfold wkD uD; omega) (by omega) (by omega), xK_o (by omega) (by omega)]; exact b5
                · rw [f8 _ _ (by omega) (by omega), f6 _ _ (by unfold wkD uD; omega) (by omega) (by omega), xK_o (by omega) (by omega)]; exact b6
                · rw [r2.2 _ (by omega) (by omega) (by omega), xK_5]; simp (disch := omega) only [gI_same, gI_ne, gI_eq2, gR_sI, gL_sI, gI_sL, gR_sL, gI_sR, gL_sR]
                · rw [g8 _ (by omega) (by omega) (by omega) (by omega), f6 _ _ (by unfold wkD uD; omega) (by omega) (by omega), xK_o (by omega) (by omega)]; exact b8
                · rw [xK_5] at hi'
                  by_cases ci : i = X 0 5
                  · subst ci
                    rw [vK_s]
                    refine isNr.cg m2 oP oW.1 (fun k hk => ?_)
                    rw [f8 _ _ (by omega) (by omega), y2 k hk, gI_ne (by omega), u3.2.1 _ _ (by unfold wkD uD; omega)]
                  · rw [vK_n ci]
                    refine isNr.cg (m7 i (by omega)) oP (hO.2.2.2.1.2 i (by show i < X 0 5; omega)).1 (fun k hk => ?_)
                    rw [f8 _ _ (by omega) (by omega), f6 _ _ (by unfold wkD uD; omega) (by omega) (by omega)]
                · rw [xK_o (by omega) (by omega)] at hj
                  have o3 : X 0 6 ≤ 3 := hO.2.2.2.2.1
                  have oI := hO.2.2.2.2.2 j hj
                  obtain ⟨p1, p2, p3⟩ := m8 j hj
                  refine ⟨?_, isNr.cg p2 oP oI.1.1 (fun k hk => ?_), fun i hi2 => isNr.cg (p3 i hi2) oP (oI.2.2 i hi2).1 (fun k hk => ?_)⟩
                  · rw [f8 _ _ (by omega) (by omega), f6 _ _ (by unfold wkD uD; omega) (by omega) (by omega)]; exact p1
                  · rw [f8 _ _ (by omega) (by omega), f6 _ _ (by unfold wkD uD; omega) (by omega) (by omega)]
                  · rw [f8 _ _ (by omega) (by omega), f6 _ _ (by unfold wkD uD; omega) (by omega) (by omega)]
              · rw [f8 _ _ (by omega) (by omega), f6 _ _ (by unfold wkD uD; omega) (by omega) (by omega)]
              · rw [r2.1.l (by omega)]
                show gL N6 a k = _
                rw [y3.l (by omega)]; exact u3.2.2.1 a k
              · rw [r2.1.r (by omega)]
                show gR N6 a k = _
                rw [y3.r (by omega)]; exact u3.2.2.2 a k
            · exact absurd ck0 q
        · dsimp only at ck0 h4
          have efine := C_fine h4
          rw [if_neg ck0] at efine
          have g4 := h4.1.2.2.1
          have g5 := h4.1.2.2.2
          have hk3 := h4.2.2.1
          have c16n : X 0 5 ≠ 16 := c16
          refine agW h (v := nI kk - nI 10) (M' := M3) (S' := (P, W, xE X ff, V, I)) ?_ ?_ ?_ ⟨⟨by omega, hz3⟩, fun a k h1 h2 => f13.2.1 a k (by omega)⟩ (fun M1 hm => ?_)
          · simp (disch := omega) only [f_C_work, l150, t1, hg, C_inT, f_C_mustBe, t7, nI_eqF c16n, e1, g10, e3, efine, f_Tape_faultAnswer, g4, bI_s, bV_s, bL_s, bR_s, bG_s, bG_n, bX_l, bX_r, ck_nI, nI_clamp, nI_leT, nI_leF, nI_ltT, nI_ltF, nI_eqF, nI_add, pk_mul, ofN, bt_e, or0, Nat.zero_add, Nat.add_zero, ↓reduceIte, if_true, if_false, Bool.false_eq_true, eq_self, li0, li1, li2, li3, li4, li5, li6, li7, li8, li9, li10, li11, li12, li14, li15, li16, li18, li19, li20, li23, li24, li25, li26, li27, li30, li31, li32, li36, li40, li41, li42, li43, li44, li45, li47, li48, li57, li59, li60, li91, li93, li96, li97, li100, li105, li122, li150, li200, li255, li400, li500, li600, li999, li1000, li1001, li2000, li2001, li2002, li2003, li2004, li2005, li2006, li32767, li100000, li_neg, li13, li17, li21, li22, li28, li29, li33, li34, li35, li37, li38, li39, li46, li49, li50, li51, li52, li53, li63, li80, li115, li160]
          · refine CItp hr hP hW ht hL hD hv hi ex3 hn (fun a q => by unfold tpf; omega) (xE_T X ff) ?_ ?_ (fun k q => ?_)
            · rw [xE_0]; exact a3
            · rw [xE_1]; exact g5
            · rw [xE_0] at q; omega
          · exact oStp hO (xE_T X ff) (by rw [xE_0]; omega) (fun k q => by rw [xE_0] at q; omega)
          · obtain ⟨N3, N5, u1, u2, u3, u4, u5⟩ := mkey M1 hm
            rcases u5 with ⟨q, _⟩ | ⟨_, a'', z1⟩
            · exact absurd q ck0
            · dsimp only at z1
              have z5 := z1.1.2.2.1
              have z6 := z1.1.2.2.2
              have em := hm1 M1 hm
              have e38 := hm38 M1 hm
              refine ⟨sI N5 (o + 61) 3 (nI ff), ?_, ?_, ?_, ⟨u3.1, fun a k q => ?_, fun a k _ => u3.2.2.1 a k, fun a k _ => u3.2.2.2 a k⟩⟩
              · have ey : f_M_work_d (o + 61) (nI j) N5 = some (nI kk - nI 10, sI N5 (o + 61) 3 (nI ff)) := by
                  have z7 : gI (sI N5 (o + 61) 3 (nI ff)) (o + 61) 5 = nI kk := by rw [gI_ne (Or.inr (by omega))]; exact z5
                  simp (disch := omega) only [f_M_work_d, f_M_faulty, z5, z6, z7, bI_s, bV_s, bL_s, bR_s, bG_s, bG_n, bX_l, bX_r, ck_nI, nI_clamp, nI_leT, nI_leF, nI_ltT, nI_ltF, nI_eqF, nI_add, pk_mul, ofN, bt_e, or0, Nat.zero_add, Nat.add_zero, ↓reduceIte, if_true, if_false, Bool.false_eq_true, eq_self, li0, li1, li2, li3, li4, li5, li6, li7, li8, li9, li10, li11, li12, li14, li15, li16, li18, li19, li20, li23, li24, li25, li26, li27, li30, li31, li32, li36, li40, li41, li42, li43, li44, li45, li47, li48, li57, li59, li60, li91, li93, li96, li97, li100, li105, li122, li150, li200, li255, li400, li500, li600, li999, li1000, li1001, li2000, li2001, li2002, li2003, li2004, li2005, li2006, li32767, li100000, li_neg, li13, li17, li21, li22, li28, li29, li33, li34, li35, li37, li38, li39, li46, li49, li50, li51, li52, li53, li63, li80, li115, li160]
                simp (disch := omega) only [f_M_work, f_M_work_b, l150, em, M_inT, hm.b0, e38, nI_eqF c16n, u1, u2, ey, bI_s, bV_s, bL_s, bR_s, bG_s, bG_n, bX_l, bX_r, ck_nI, nI_clamp, nI_leT, nI_leF, nI_ltT, nI_ltF, nI_eqF, nI_add, pk_mul, ofN, bt_e, or0, Nat.zero_add, Nat.add_zero, ↓reduceIte, if_true, if_false, Bool.false_eq_true, eq_self, li0, li1, li2, li3, li4, li5, li6, li7, li8, li9, li10, li11, li12, li14, li15, li16, li18, li19, li20, li23, li24, li25, li26, li27, li30, li31, li32, li36, li40, li41, li42, li43, li44, li45, li47, li48, li57, li59, li60, li91, li93, li96, li97, li100, li105, li122, li150, li200, li255, li400, li500, li600, li999, li1000, li1001, li2000, li2001, li2002, li2003, li2004, li2005, li2006, li32767, li100000, li_neg, li13, li17, li21, li22, li28, li29, li33, li34, li35, li37, li38, li39, li46, li49, li50, li51, li52, li53, li63, li80, li115, li160]
              · rw [gI_ne (Or.inr (by omega)), u3.2.1 _ _ (by unfold wkD uD; omega)]; exact gI_same ..
              · refine MJtp hm hO (fun a k q => ?_) (xE_T X ff) ?_ ?_ (fun k q => ?_)
                · rw [gI_ne (by unfold usd qrg at q; omega), u3.2.1 _ _ (by unfold usd qrg at q; unfold wkD uD; omega)]
                · rw [xE_0, gI_ne (Or.inr (by omega))]; exact u4
                · rw [xE_1, gI_same]
                · rw [xE_0] at q; omega
              · rw [gI_ne (Or.inl (by omega)), u3.2.1 _ _ (by unfold wkD uD; omega)]
    · refine agE1 h (cc := 1) rfl rfl (by omega) ?_ (nI 0) (fun M1 hm => ?_)
      · simp (disch := omega) only [f_C_work, f_C_isWithin, l150, t1, hg, f_C_mustBe, t6, bI_s, bV_s, bL_s, bR_s, bG_s, bG_n, bX_l, bX_r, ck_nI, nI_clamp, nI_leT, nI_leF, nI_ltT, nI_ltF, nI_eqF, nI_add, pk_mul, ofN, bt_e, or0, Nat.zero_add, Nat.add_zero, ↓reduceIte, if_true, if_false, Bool.false_eq_true, eq_self, li0, li1, li2, li3, li4, li5, li6, li7, li8, li9, li10, li11, li12, li14, li15, li16, li18, li19, li20, li23, li24, li25, li26, li27, li30, li31, li32, li36, li40, li41, li42, li43, li44, li45, li47, li48, li57, li59, li60, li91, li93, li96, li97, li100, li105, li122, li150, li200, li255, li400, li500, li600, li999, li1000, li1001, li2000, li2001, li2002, li2003, li2004, li2005, li2006, li32767, li100000, li_neg, li13, li17, li21, li22, li28, li29, li33, li34, li35, li37, li38, li39, li46, li49, li50, li51, li52, li53, li63, li80, li115, li160]
      · have em := hm1 M1 hm
        simp (disch := omega) only [f_M_work, f_M_work_b, l150, em, M_inT, hm.b11, bI_s, bV_s, bL_s, bR_s, bG_s, bG_n, bX_l, bX_r, ck_nI, nI_clamp, nI_leT, nI_leF, nI_ltT, nI_ltF, nI_eqF, nI_add, pk_mul, ofN, bt_e, or0, Nat.zero_add, Nat.add_zero, ↓reduceIte, if_true, if_false, Bool.false_eq_true, eq_self, li0, li1, li2, li3, li4, li5, li6, li7, li8, li9, li10, li11, li12, li14, li15, li16, li18, li19, li20, li23, li24, li25, li26, li27, li30, li31, li32, li36, li40, li41, li42, li43, li44, li45, li47, li48, li57, li59, li60, li91, li93, li96, li97, li100, li105, li122, li150, li200, li255, li400, li500, li600, li999, li1000, li1001, li2000, li2001, li2002, li2003, li2004, li2005, li2006, li32767, li100000, li_neg, li13, li17, li21, li22, li28, li29, li33, li34, li35, li37, li38, li39, li46, li49, li50, li51, li52, li53, li63, li80, li115, li160]
  · have w3 : ∀ M, f_C_isWithin p0 (nI 0) (nI (min 150 (X 0 0))) M = some (nI 0, M) := by
      rcases wth p0 0 (min 150 (X 0 0)) (by omega) (by omega) with ⟨j, _, hj, rfl⟩ | ⟨w3, _⟩
      · intro N
        have q1 := w2 N
        rw [M_inT (by omega) (by omega) (by omega)] at q1
        have q2 : nI 1 = nI 0 := congrArg Prod.fst (Option.some.inj q1)
        exact absurd q2 (by decide)
      · exact w3
    refine agE1 h (cc := 1) rfl rfl (by omega) ?_ (nI 0) (fun M1 hm => ?_)
    · simp (disch := omega) only [f_C_work, l150, t1, hg, w3, f_C_mustBe, t6, bI_s, bV_s, bL_s, bR_s, bG_s, bG_n, bX_l, bX_r, ck_nI, nI_clamp, nI_leT, nI_leF, nI_ltT, nI_ltF, nI_eqF, nI_add, pk_mul, ofN, bt_e, or0, Nat.zero_add, Nat.add_zero, ↓reduceIte, if_true, if_false, Bool.false_eq_true, eq_self, li0, li1, li2, li3, li4, li5, li6, li7, li8, li9, li10, li11, li12, li14, li15, li16, li18, li19, li20, li23, li24, li25, li26, li27, li30, li31, li32, li36, li40, li41, li42, li43, li44, li45, li47, li48, li57, li59, li60, li91, li93, li96, li97, li100, li105, li122, li150, li200, li255, li400, li500, li600, li999, li1000, li1001, li2000, li2001, li2002, li2003, li2004, li2005, li2006, li32767, li100000, li_neg, li13, li17, li21, li22, li28, li29, li33, li34, li35, li37, li38, li39, li46, li49, li50, li51, li52, li53, li63, li80, li115, li160]
    · have em := hm1 M1 hm
      simp (disch := omega) only [f_M_work, f_M_work_b, em, w2, hm.b11, bI_s, bV_s, bL_s, bR_s, bG_s, bG_n, bX_l, bX_r, ck_nI, nI_clamp, nI_leT, nI_leF, nI_ltT, nI_ltF, nI_eqF, nI_add, pk_mul, ofN, bt_e, or0, Nat.zero_add, Nat.add_zero, ↓reduceIte, if_true, if_false, Bool.false_eq_true, eq_self, li0, li1, li2, li3, li4, li5, li6, li7, li8, li9, li10, li11, li12, li14, li15, li16, li18, li19, li20, li23, li24, li25, li26, li27, li30, li31, li32, li36, li40, li41, li42, li43, li44, li45, li47, li48, li57, li59, li60, li91, li93, li96, li97, li100, li105, li122, li150, li200, li255, li400, li500, li600, li999, li1000, li1001, li2000, li2001, li2002, li2003, li2004, li2005, li2006, li32767, li100000, li_neg, li13, li17, li21, li22, li28, li29, li33, li34, li35, li37, li38, li39, li46, li49, li50, li51, li52, li53, li63, li80, li115, li160]
end
