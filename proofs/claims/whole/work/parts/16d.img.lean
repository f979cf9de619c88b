/-! # functional level, 22: image, restore -/
def CIj (M : Mm) (o : Nat) (P : TT) (T : Nat → TT) (g : Nat) : Prop := fw o M g 10 ∧ isW M (g + 1) P (T 0) ∧ gI M g 1 = nI (T 1 0 0) ∧ ∀ i, i < T 1 0 0 → ∃ w, gR M (g + 9) i = some w ∧ fw o M w 8 ∧ isW M w P (T (2 + i))
section
variable {M M' M0 M1 M2 N : Mm} {o m r g : Nat} {S S' : St} {P W X X' W' : TT} {V V' : Nat → TT} {I I' : Nat → Nat → TT} {T : Nat → TT}
theorem CIj.mv {D : Nat → Prop} (h : CIj M o P T g) (e : eqx D M M') (hD : ∀ a, o + 561 ≤ a → ¬ D a) : CIj M' o P T g := by
  obtain ⟨q2, q3, q4, q5⟩ := h
  have z4 := q2.1
  have z5 := q2.2
  refine ⟨q2.mv e.1, q3.eqx e (fun a ha hb => ⟨by omega, hD a (by omega)⟩), ?_, fun i hi => ?_⟩
  · rw [(e.2 _ (by omega) (hD _ (by omega))).1]; exact q4
  · obtain ⟨w, y1, y2, y3⟩ := q5 i hi
    have z6 := y2.1
    have z7 := y2.2
    exact ⟨w, by rw [(e.2 _ (by omega) (hD _ (by omega))).2]; exact y1, y2.mv e.1, y3.eqx e (fun a ha hb => ⟨by omega, hD a (by omega)⟩)⟩
/-- the new image -/
def imT (W : TT) (n : Nat) (V : Nat → TT) (t : Nat) : TT := if t = 0 then W else if t = 1 then (fun _ _ => n) else V (t - 2)
def imI (I : Nat → Nat → TT) (k : Nat) (T : Nat → TT) (j : Nat) : Nat → TT := if j = k then T else I j
theorem imT_v (W : TT) (n : Nat) (V : Nat → TT) (i : Nat) : imT W n V (2 + i) = V i := by
  unfold imT
  rw [if_neg (by omega), if_neg (by omega)]
  congr 1; omega
theorem C_keepImage (hC : CI M o (P, W, X, V, I)) (hO : oS (P, W, X, V, I)) (hn : o + 561 ≤ nx M) (hz : kz M) (h6 : X 0 6 < 3) : ∃ M', f_Past_keepImage (o + 16) (o + 8) M = some (nI 1, M') ∧ (gI M' (o + 16) 3 = nI (X 0 6 + 1) ∧ gI M' (o + 16) 1 = nI (X 0 5)) ∧ (eqx (fun a => a = o + 18 ∨ a = o + 16) M M' ∧ kz M') ∧ (∀ j, j ≠ X 0 6 → gR M' (o + 18) j = gR M (o + 18) j) ∧ gR M' (o + 18) (X 0 6) = some (nx M) ∧ CIj M' o P (imT W (X 0 5) V) (nx M) := by
  obtain ⟨p, l, d, hr, ⟨hP, hW⟩, ⟨⟨t1, t2⟩, t3, ⟨t4, t5, t6⟩, t7, t8⟩, ⟨hL, hD⟩, hv, hi⟩ := id hC
  dsimp only at hP hW t7 t8 hv hi
  have oP : okP P := hO.1.1
  have oW : okW P W := hO.1.2.1
  have o5 : X 0 5 ≤ 16 := hO.2.2.2.1.1
  have l1 : Lo (nx M) M (sN M 204 0) := (Lo.rf _ _).sN (Nat.le_refl _) 204 0
  have n1 : nx (sN M 204 0) = nx M + 1 := rfl
  obtain ⟨M2, e1, ⟨e2, e3⟩, e4, e5, e6⟩ := C_copied (q := o + 8) (M := sN M 204 0) (hW.lo l1 (by omega)) (by omega) (fun a ha => hz.sN 204 0 a ha) oP oW
  rw [n1] at e1 e2 e3 e4 e5
  have l2 : Lo (nx M) M M2 := l1.trans (e5.mono (by omega))
  have w2 : gI M2 (o + 16) 1 = nI (X 0 5) := by rw [(l2 _ (by omega)).2.1]; exact t7
  -- the object
  have nA : nx (sN M2 17 16) = nx M + 10 := by show nx M2 + 1 = _; omega
  have lA : Lo (nx M) M (sI (sR (sR (sN M2 17 16) (nx M) 2 (some (nx M2))) (nx M) 0 (some (nx M + 1))) (nx M) 1 (nI (X 0 5))) := (((l2.sN (by omega) 17 16).sR (Nat.le_refl _)).sR (Nat.le_refl _)).sI (Nat.le_refl _)
  have zA : kz (sI (sR (sR (sN M2 17 16) (nx M) 2 (some (nx M2))) (nx M) 0 (some (nx M + 1))) (nx M) 1 (nI (X 0 5))) := fun a ha => e6.sN 17 16 a ha
  have sA : FS M (sI (sR (sR (sN M2 17 16) (nx M) 2 (some (nx M2))) (nx M) 0 (some (nx M + 1))) (nx M) 1 (nI (X 0 5))) (nx M) 10 [(0, 1, 11, 0), (2, 9, 17, 16)] := by
    refine ⟨⟨nA, by omega⟩, ⟨lA, zA⟩, fun q hq => ?_⟩
    rcases List.mem_cons.mp hq with e | e
    · subst e
      refine ⟨⟨gR_same .., ?_⟩, by show 1 < 10; omega⟩
      show kd (sN M2 17 16) (nx M + 1) = (11, 0)
      rw [kd_sNn (by omega)]; exact e3
    · rcases List.mem_cons.mp e with e | e
      · subst e
        refine ⟨⟨?_, ?_⟩, by show 9 < 10; omega⟩
        · show gR (sR (sR (sN M2 17 16) (nx M) 2 (some (nx M2))) (nx M) 0 (some (nx M + 1))) (nx M) 2 = some (nx M + 9)
          rw [gR_ne (by omega), gR_same, e2]
        · show kd (sN M2 17 16) (nx M + 9) = (17, 16)
          have : nx M + 9 = nx M2 := by omega
          rw [this]; exact kd_sNs ..
      · exact nomatch e
  have vA := sA.vwB (kf := 4) (by decide)
  obtain ⟨⟨f1, f2⟩, f3, f4⟩ := sA.fin 4
  generalize hA : sK (sI (sR (sR (sN M2 17 16) (nx M) 2 (some (nx M2))) (nx M) 0 (some (nx M + 1))) (nx M) 1 (nI (X 0 5))) (nx M) 4 = M5 at f1 f2 f3 f4
  have eI : f_Image_init (nx M) (nx M + 1) (nI (X 0 5)) M2 = some M5 := by
    rw [← hA]
    refine Eq.trans ?_ (vwc_i vA)
    simp only [f_Image_init, f_Image_init_b, lt0_e]
  have g5 : gI M5 (nx M) 1 = nI (X 0 5) := by rw [← hA]; exact gI_same ..
  have w5 : isW M5 (nx M + 1) P W := by
    refine e4.eqx (D := fun a => a = nx M) ⟨by omega, fun a ha hd => ?_⟩ (fun a h1 h2 => ⟨by omega, by omega⟩)
    rw [← hA]
    refine ⟨fun j => ?_, fun j => ?_⟩
    · show gI (sI (sR (sR (sN M2 17 16) (nx M) 2 (some (nx M2))) (nx M) 0 (some (nx M + 1))) (nx M) 1 (nI (X 0 5))) a j = _
      rw [gI_ne (by omega)]
      show gI (sN M2 17 16) a j = _
      exact gI_sNn (by omega)
    · show gR (sR (sR (sN M2 17 16) (nx M) 2 (some (nx M2))) (nx M) 0 (some (nx M + 1))) a j = _
      rw [gR_ne (by omega), gR_ne (by omega)]
      exact gR_sNn (by omega)
  have t75 : gI M5 (o + 16) 1 = nI (X 0 5) := by rw [(f3 _ (by omega)).2.1]; exact t7
  obtain ⟨M7, c1, c2, c3⟩ := C_copyWorks (M := M5) (s := o + 16 + 1) (t := nx M + 9) (by omega) o5
  have l7 : Lo (nx M) M M7 := f3.trans (Lo.fr c3 (fun a ha => by omega))
  have t87 : gI M7 (o + 16) 3 = nI (X 0 6) := by rw [(l7 _ (by omega)).2.1]; exact t8
  have n7 : nx M7 = nx M + 10 := by rw [c3.1.1]; exact f1
  have z7 : kz M7 := f4.fr c3
  have eq7 : eqx (fun a => a = o + 18 ∨ a = o + 16) M (sI (sR M7 (o + 18) (X 0 6) (some (nx M))) (o + 16) 3 (nI (X 0 6 + 1))) := by
    refine ⟨by show nx M ≤ nx M7; omega, fun a ha hd => ⟨fun j => ?_, fun j => ?_⟩⟩
    · rw [gI_ne (by omega)]
      exact (l7 a ha).2.1 j
    · show gR (sR M7 (o + 18) (X 0 6) (some (nx M))) a j = _
      rw [gR_ne (by omega)]
      exact (l7 a ha).2.2.2 j
  refine ⟨sI (sR M7 (o + 18) (X 0 6) (some (nx M))) (o + 16) 3 (nI (X 0 6 + 1)), ?_, ⟨gI_same .., ?_⟩, ⟨eq7, fun a ha => z7 a ha⟩, fun j hj => ?_, gR_same .., ⟨⟨by omega, by show nx M + 10 ≤ nx M7; omega⟩, ?_, ?_, fun i hi' => ?_⟩⟩
  · have k5 : kd M5 (nx M) = (4, 0) := f2
    simp (disch := omega) only [f_Past_keepImage, t8, lt0_e, e1, w2, k0_i (hz (nx M) (Nat.le_refl _)), eI, k1_i k5, t75, c1, t87, gI_sR, bI_s, bV_s, bL_s, bR_s, bG_s, bG_n, bX_l, bX_r, ck_nI, nI_clamp, nI_leT, nI_leF, nI_ltT, nI_ltF, nI_eqF, nI_add, pk_mul, ofN, bt_e, or0, Nat.zero_add, Nat.add_zero, ↓reduceIte, if_true, if_false, Bool.false_eq_true, eq_self, li0, li1, li2, li3, li4, li5, li6, li7, li8, li9, li10, li11, li12, li14, li15, li16, li18, li19, li20, li23, li24, li25, li26, li27, li30, li31, li32, li36, li40, li41, li42, li43, li44, li45, li47, li48, li57, li59, li60, li91, li93, li96, li97, li100, li105, li122, li150, li200, li255, li400, li500, li600, li999, li1000, li1001, li2000, li2001, li2002, li2003, li2004, li2005, li2006, li32767, li100000, li_neg, li13, li17, li21, li22, li28, li29, li33, li34, li35, li37, li38, li39, li46, li49, li50, li51, li52, li53, li63, li80, li115, li160]
  · rw [gI_ne (by omega)]
    show gI M7 (o + 16) 1 = _
    rw [(l7 _ (by omega)).2.1]; exact t7
  · show gR (sR M7 (o + 18) (X 0 6) (some (nx M))) (o + 18) j = _
    rw [gR_ne (Or.inr hj)]
    exact (l7 _ (by omega)).2.2.2 j
  · have : isW M7 (nx M + 1) P W := w5.fr c3 (fun x h1 h2 (z : x = nx M + 9) => by omega)
    exact this.fr (M' := sI (sR M7 (o + 18) (X 0 6) (some (nx M))) (o + 16) 3 (nI (X 0 6 + 1))) (((Fr.rf (fun a => a = o + 18 ∨ a = o + 16) M7).sR (Or.inl rfl)).sI (Or.inr rfl)) (fun x h1 h2 z => by omega)
  · rw [gI_ne (by omega)]
    show gI M7 (nx M) 1 = _
    rw [c3.i (by omega)]; exact g5
  · have hi2 : i < X 0 5 := hi'
    obtain ⟨w, q1, q2, q3⟩ := hv i hi2
    have z6 := q2.1
    have z8 := q2.2
    refine ⟨w, ?_, ⟨q2.1, by show w + 8 ≤ nx M7; omega⟩, ?_⟩
    · show gR (sR M7 (o + 18) (X 0 6) (some (nx M))) (nx M + 9) i = _
      rw [gR_ne (by omega), c2 i hi2, (f3 _ (by omega)).2.2.2]; exact q1
    · rw [imT_v]
      exact q3.eqx eq7 (fun a h1 h2 => ⟨by omega, by omega⟩)
theorem A_image (h : InvS o M S) : Ag0 o (f_C_image o M) (fun M1 => f_M_image (o + 61) M1) := by
  obtain ⟨P, W, X, V, I⟩ := S
  obtain ⟨p, l, d, hr, ⟨hP, hW⟩, ⟨⟨t1, t2⟩, t3, ⟨t4, t5, t6⟩, t7, t8⟩, ⟨hL, hD⟩, hv, hi⟩ := id h.1
  dsimp only at hP hW t1 t2 t3 t4 t5 t6 t7 t8 hL hD hv hi
  have hO := h.2.2.1
  have hn := h.2.2.2.1
  have oP : okP P := hO.1.1
  have o6 : X 0 6 ≤ 3 := hO.2.2.2.2.1
  by_cases c : X 0 6 = 3
  · rw [c] at t8
    refine ag0R0 h (v := nI 4294967295) ?_ (fun M1 hm => ?_)
    · simp (disch := omega) only [f_C_image, f_Past_keepImage, t8, bI_s, bV_s, bL_s, bR_s, bG_s, bG_n, bX_l, bX_r, ck_nI, nI_clamp, nI_leT, nI_leF, nI_ltT, nI_ltF, nI_eqF, nI_add, pk_mul, ofN, bt_e, or0, Nat.zero_add, Nat.add_zero, ↓reduceIte, if_true, if_false, Bool.false_eq_true, eq_self, li0, li1, li2, li3, li4, li5, li6, li7, li8, li9, li10, li11, li12, li14, li15, li16, li18, li19, li20, li23, li24, li25, li26, li27, li30, li31, li32, li36, li40, li41, li42, li43, li44, li45, li47, li48, li57, li59, li60, li91, li93, li96, li97, li100, li105, li122, li150, li200, li255, li400, li500, li600, li999, li1000, li1001, li2000, li2001, li2002, li2003, li2004, li2005, li2006, li32767, li100000, li_neg, li13, li17, li21, li22, li28, li29, li33, li34, li35, li37, li38, li39, li46, li49, li50, li51, li52, li53, li63, li80, li115, li160]
    · have e : gI (sI M1 (o + 61) 0 (nI 0)) (o + 61) 40 = nI (X 0 6) := hm.2.1.2.2.2.2
      rw [c] at e
      simp (disch := omega) only [f_M_image, e, bI_s, bV_s, bL_s, bR_s, bG_s, bG_n, bX_l, bX_r, ck_nI, nI_clamp, nI_leT, nI_leF, nI_ltT, nI_ltF, nI_eqF, nI_add, pk_mul, ofN, bt_e, or0, Nat.zero_add, Nat.add_zero, ↓reduceIte, if_true, if_false, Bool.false_eq_true, eq_self, li0, li1, li2, li3, li4, li5, li6, li7, li8, li9, li10, li11, li12, li14, li15, li16, li18, li19, li20, li23, li24, li25, li26, li27, li30, li31, li32, li36, li40, li41, li42, li43, li44, li45, li47, li48, li57, li59, li60, li91, li93, li96, li97, li100, li105, li122, li150, li200, li255, li400, li500, li600, li999, li1000, li1001, li2000, li2001, li2002, li2003, li2004, li2005, li2006, li32767, li100000, li_neg, li13, li17, li21, li22, li28, li29, li33, li34, li35, li37, li38, li39, li46, li49, li50, li51, li52, li53, li63, li80, li115, li160]
  · obtain ⟨M', e1, ⟨e2, e3⟩, ⟨e4, e5⟩, e6, e7, e8⟩ := C_keepImage h.1 hO hn h.2.2.2.2 (by omega)
    have x6 : (up X 0 6 (X 0 6 + 1)) 0 6 = X 0 6 + 1 := up_s ..
    have xo : ∀ k, k ≠ 6 → (up X 0 6 (X 0 6 + 1)) 0 k = X 0 k := fun k h1 => up_n (by omega)
    have xr : ∀ i, i ≠ 0 → (up X 0 6 (X 0 6 + 1)) i = X i := fun i h1 => up_row h1
    have hX : ((up X 0 6 (X 0 6 + 1)) 0 7 = X 0 7 ∧ (up X 0 6 (X 0 6 + 1)) 0 8 = X 0 8) ∧ (up X 0 6 (X 0 6 + 1)) 2 = X 2 ∧ (up X 0 6 (X 0 6 + 1)) 3 = X 3 ∧ (up X 0 6 (X 0 6 + 1)) 4 = X 4 := ⟨⟨xo 7 (by omega), xo 8 (by omega)⟩, xr 2 (by omega), xr 3 (by omega), xr 4 (by omega)⟩
    have f9 : ∀ a, a < o + 561 → ¬ (a = o + 18 ∨ a = o + 16) → ∀ j, gI M' a j = gI M a j := fun a ha hd j => (e4.2 a (by omega) hd).1 j
    refine ag0W h (v := nI (X 0 6 + 1)) (M' := M') (S' := (P, W, up X 0 6 (X 0 6 + 1), V, imI I (X 0 6) (imT W (X 0 5) V))) ?_ ?_ ?_ ⟨⟨e4.1, e5⟩, fun a j h1 h2 => f9 a (by omega) (by omega) j⟩ (fun M1 hm => ?_)
    · simp (disch := omega) only [f_C_image, e1, e2, bI_s, bV_s, bL_s, bR_s, bG_s, bG_n, bX_l, bX_r, ck_nI, nI_clamp, nI_leT, nI_leF, nI_ltT, nI_ltF, nI_eqF, nI_add, pk_mul, ofN, bt_e, or0, Nat.zero_add, Nat.add_zero, ↓reduceIte, if_true, if_false, Bool.false_eq_true, eq_self, li0, li1, li2, li3, li4, li5, li6, li7, li8, li9, li10, li11, li12, li14, li15, li16, li18, li19, li20, li23, li24, li25, li26, li27, li30, li31, li32, li36, li40, li41, li42, li43, li44, li45, li47, li48, li57, li59, li60, li91, li93, li96, li97, li100, li105, li122, li150, li200, li255, li400, li500, li600, li999, li1000, li1001, li2000, li2001, li2002, li2003, li2004, li2005, li2006, li32767, li100000, li_neg, li13, li17, li21, li22, li28, li29, li33, li34, li35, li37, li38, li39, li46, li49, li50, li51, li52, li53, li63, li80, li115, li160]
    · refine CIwl h.1 hX (fun a h1 h2 h3 j => f9 a (by omega) (by omega) j) (fun j => (e4.2 o (by omega) (by omega)).2 j) ⟨⟨?_, ?_⟩, fun k hk => ?_, ⟨?_, ?_, ?_⟩, ?_, ?_⟩ ?_ ?_ (fun j hj => ?_)
      · rw [f9 _ (by omega) (by omega), xo 0 (by omega)]; exact t1
      · rw [f9 _ (by omega) (by omega), xo 1 (by omega)]; exact t2
      · rw [xo 0 (by omega)] at hk
        rw [f9 _ (by omega) (by omega), xr 1 (by omega)]; exact t3 k hk
      · rw [f9 _ (by omega) (by omega), xo 2 (by omega)]; exact t4
      · rw [f9 _ (by omega) (by omega), xo 3 (by omega)]; exact t5
      · rw [f9 _ (by omega) (by omega), xo 4 (by omega)]; exact t6
      · rw [e3, xo 5 (by omega)]
      · rw [e2, x6]
      · exact hW.eqx e4 (fun a h1 h2 => ⟨by omega, by omega⟩)
      · have h7 : CIv M o P (up X 0 6 (X 0 6 + 1)) V := fun i hi' => hv i (by rw [xo 5 (by omega)] at hi'; exact hi')
        exact h7.mv e4 hn (by omega) (fun a ha => by omega)
      · rw [x6] at hj
        by_cases cj : j = X 0 6
        · subst cj
          refine ⟨nx M, e7, ?_⟩
          have : imI I (X 0 6) (imT W (X 0 5) V) (X 0 6) = imT W (X 0 5) V := if_pos rfl
          rw [this]; exact e8
        · obtain ⟨g, q1, q2⟩ := hi j (by omega)
          refine ⟨g, by rw [e6 j cj]; exact q1, ?_⟩
          have : imI I (X 0 6) (imT W (X 0 5) V) j = I j := if_neg cj
          rw [this]
          exact CIj.mv (T := I j) q2 e4 (fun a ha => by omega)
    · obtain ⟨⟨_, oW⟩, ⟨o1, o2⟩, o3, ⟨o4, o5⟩, o6', o7⟩ := hO
      dsimp only at oW o1 o2 o3 o4 o5 o6' o7
      refine ⟨⟨oP, oW⟩, ⟨?_, ?_⟩, ?_, ⟨?_, fun i hi' => ?_⟩, ?_, fun j hj => ?_⟩
      · dsimp only; rw [xo 0 (by omega), xr 1 (by omega)]; exact o1
      · dsimp only; rw [hX.1.1, hX.2.1]; exact o2
      · dsimp only; rw [hX.1.2, hX.2.2.1, hX.2.2.2]; exact o3
      · dsimp only; rw [xo 5 (by omega)]; exact o4
      · dsimp only at hi' ⊢; rw [xo 5 (by omega)] at hi'; exact o5 i hi'
      · dsimp only; rw [x6]; omega
      · dsimp only at hj ⊢
        rw [x6] at hj
        by_cases cj : j = X 0 6
        · subst cj
          have : imI I (X 0 6) (imT W (X 0 5) V) (X 0 6) = imT W (X 0 5) V := if_pos rfl
          rw [this]
          refine ⟨oW, o4, fun i hi' => ?_⟩
          rw [imT_v]; exact o5 i hi'
        · have : imI I (X 0 6) (imT W (X 0 5) V) j = I j := if_neg cj
          rw [this]; exact o7 j (by omega)
    · have u1 : gI (sI M1 (o + 61) 0 (nI 0)) (o + 61) 40 = nI (X 0 6) := hm.2.1.2.2.2.2
      obtain ⟨⟨m1, m2⟩, ⟨⟨y1, y2⟩, y3, ⟨y4, y5, y6⟩, y7, y8⟩, ⟨m5, m6⟩, m7, m8⟩ := id hm
      dsimp only at m1 m2 y1 y2 y3 y4 y5 y6 y7 y8 m5 m6 m7 m8
      have oV := hO.2.2.2.1.2
      have oI := hO.2.2.2.2.2
      have o5 : X 0 5 ≤ 16 := hO.2.2.2.1.1
      dsimp only at oV oI
      generalize hM0 : sI M1 (o + 61) 0 (nI 0) = M0 at *
      obtain ⟨N, z1, z2, z3, z4⟩ := M_puts0 (M := M0) (m := o + 61) (r := o + 61 + 489 + 1 + X 0 6) (by omega)
      have fM : ∀ a j, a ≠ o + 61 + 489 + 1 + X 0 6 → ¬ (a = o + 61 ∧ (j = 40 ∨ j = 41)) → gI (sI N (o + 61) 40 (nI (X 0 6 + 1))) a j = gI M0 a j := fun a j h1 h2 => by
        rw [gI_ne (by omega), z3 a j h1 (by omega)]
      have fR : ∀ s, s < 1786 → gI (sI N (o + 61) 40 (nI (X 0 6 + 1))) (o + 61 + 489 + 1 + X 0 6) s = gI M0 (sc (o + 61) s) (sj s) := fun s hs => by
        rw [gI_ne (by omega)]; exact z2 s hs
      refine ⟨sI N (o + 61) 40 (nI (X 0 6 + 1)), ?_, ?_, ⟨⟨z4.1.1, z4.1.2⟩, fun a j ha => fM a j (by omega) (by omega), fun a j ha => z4.l (by unfold rg; omega) j, fun a j ha => z4.r (by unfold rg; omega) j⟩⟩
      · have e7 : gI N (o + 61) 40 = nI (X 0 6) := by rw [z3 _ _ (by omega) (by omega)]; exact u1
        simp (disch := omega) only [f_M_image, li0, hM0, u1, z1, e7, bI_s, bV_s, bL_s, bR_s, bG_s, bG_n, bX_l, bX_r, ck_nI, nI_clamp, nI_leT, nI_leF, nI_ltT, nI_ltF, nI_eqF, nI_add, pk_mul, ofN, bt_e, or0, Nat.zero_add, Nat.add_zero, ↓reduceIte, if_true, if_false, Bool.false_eq_true, eq_self, li0, li1, li2, li3, li4, li5, li6, li7, li8, li9, li10, li11, li12, li14, li15, li16, li18, li19, li20, li23, li24, li25, li26, li27, li30, li31, li32, li36, li40, li41, li42, li43, li44, li45, li47, li48, li57, li59, li60, li91, li93, li96, li97, li100, li105, li122, li150, li200, li255, li400, li500, li600, li999, li1000, li1001, li2000, li2001, li2002, li2003, li2004, li2005, li2006, li32767, li100000, li_neg, li13, li17, li21, li22, li28, li29, li33, li34, li35, li37, li38, li39, li46, li49, li50, li51, li52, li53, li63, li80, li115, li160, gI_same, gI_ne, gI_eq2, gR_sI, gL_sI, gI_sL, gR_sL, gI_sR, gL_sR]
      · refine MJwl hm oP hO.2.1.2 hO.2.2.1.1 hX (fun a j ha => fM a j (by unfold qrg at ha; omega) (by unfold qrg at ha; omega)) ⟨⟨?_, ?_⟩, fun k hk => ?_, ⟨?_, ?_, ?_⟩, ?_, ?_⟩ ?_ (fun i hi' => ?_) (fun j hj => ?_)
        · rw [fM _ _ (by omega) (by omega), xo 0 (by omega)]; exact y1
        · rw [fM _ _ (by omega) (by omega), xo 1 (by omega)]; exact y2
        · rw [xo 0 (by omega)] at hk
          rw [fM _ _ (by omega) (by omega), xr 1 (by omega)]; exact y3 k hk
        · rw [fM _ _ (by omega) (by omega), xo 2 (by omega)]; exact y4
        · rw [fM _ _ (by omega) (by omega), xo 3 (by omega)]; exact y5
        · rw [fM _ _ (by omega) (by omega), xo 4 (by omega)]; exact y6
        · rw [fM _ _ (by omega) (by omega), xo 5 (by omega)]; exact y7
        · rw [x6]; exact gI_same ..
        · exact isNr.cg m2 oP hO.1.2.1 (fun k hk => fM _ _ (by omega) (by omega))
        · rw [xo 5 (by omega)] at hi'
          exact isNr.cg (m7 i hi') oP (oV i hi').1 (fun k _ => fM _ _ (by omega) (by omega))
        · rw [x6] at hj
          by_cases cj : j = X 0 6
          · subst cj
            have : imI I (X 0 6) (imT W (X 0 5) V) (X 0 6) = imT W (X 0 5) V := if_pos rfl
            rw [this]
            refine ⟨?_, ?_, fun i hi' => ?_⟩
            · rw [fR 0 (by omega)]; exact y7
            · refine isNr.cg m2 oP hO.1.2.1 (fun k hk => ?_)
              obtain ⟨q1, q2⟩ := sc_n (m := o + 61) hk
              show gI _ _ (1 + k) = _
              rw [fR (1 + k) (by omega), q1, q2]
            · have hi2 : i < X 0 5 := hi'
              rw [imT_v]
              refine isNr.cg (m7 i hi2) oP (oV i hi2).1 (fun k hk => ?_)
              obtain ⟨q1, q2⟩ := sc_w (m := o + 61) (w := i) hk
              show gI _ _ (106 + 105 * i + k) = _
              rw [fR _ (by omega), q1, q2]
          · have : imI I (X 0 6) (imT W (X 0 5) V) j = I j := if_neg cj
            rw [this]
            have q9 := m8 j (by omega)
            have o9 := oI j (by omega)
            exact ⟨by rw [fM _ _ (by omega) (by omega)]; exact q9.1, isNr.cg q9.2.1 oP o9.1.1 (fun k _ => fM _ _ (by omega) (by omega)), fun i hi' => isNr.cg (q9.2.2 i hi') oP (o9.2.2 i hi').1 (fun k _ => fM _ _ (by omega) (by omega))⟩
theorem A_restore (h : InvS o M S) : Ag0 o (f_C_restore o M) (fun M1 => f_M_restore (o + 61) M1) := by
  obtain ⟨P, W, X, V, I⟩ := S
  obtain ⟨p, l, d, hr, ⟨hP, hW⟩, ⟨⟨t1, t2⟩, t3, ⟨t4, t5, t6⟩, t7, t8⟩, ⟨hL, hD⟩, hv, hi⟩ := id h.1
  dsimp only at hP hW t1 t2 t3 t4 t5 t6 t7 t8 hL hD hv hi
  have hO := h.2.2.1
  have hn := h.2.2.2.1
  have oP : okP P := hO.1.1
  have o6 : X 0 6 ≤ 3 := hO.2.2.2.2.1
  by_cases c : X 0 6 = 0
  · rw [c] at t8
    refine ag0R0 h (v := nI 4294967295) ?_ (fun M1 hm => ?_)
    · simp (disch := omega) only [f_C_restore, f_Past_takeImage, t8, bI_s, bV_s, bL_s, bR_s, bG_s, bG_n, bX_l, bX_r, ck_nI, nI_clamp, nI_leT, nI_leF, nI_ltT, nI_ltF, nI_eqF, nI_add, pk_mul, ofN, bt_e, or0, Nat.zero_add, Nat.add_zero, ↓reduceIte, if_true, if_false, Bool.false_eq_true, eq_self, li0, li1, li2, li3, li4, li5, li6, li7, li8, li9, li10, li11, li12, li14, li15, li16, li18, li19, li20, li23, li24, li25, li26, li27, li30, li31, li32, li36, li40, li41, li42, li43, li44, li45, li47, li48, li57, li59, li60, li91, li93, li96, li97, li100, li105, li122, li150, li200, li255, li400, li500, li600, li999, li1000, li1001, li2000, li2001, li2002, li2003, li2004, li2005, li2006, li32767, li100000, li_neg, li13, li17, li21, li22, li28, li29, li33, li34, li35, li37, li38, li39, li46, li49, li50, li51, li52, li53, li63, li80, li115, li160]
    · have e : gI (sI M1 (o + 61) 0 (nI 0)) (o + 61) 40 = nI (X 0 6) := hm.2.1.2.2.2.2
      rw [c] at e
      simp (disch := omega) only [f_M_restore, e, bI_s, bV_s, bL_s, bR_s, bG_s, bG_n, bX_l, bX_r, ck_nI, nI_clamp, nI_leT, nI_leF, nI_ltT, nI_ltF, nI_eqF, nI_add, pk_mul, ofN, bt_e, or0, Nat.zero_add, Nat.add_zero, ↓reduceIte, if_true, if_false, Bool.false_eq_true, eq_self, li0, li1, li2, li3, li4, li5, li6, li7, li8, li9, li10, li11, li12, li14, li15, li16, li18, li19, li20, li23, li24, li25, li26, li27, li30, li31, li32, li36, li40, li41, li42, li43, li44, li45, li47, li48, li57, li59, li60, li91, li93, li96, li97, li100, li105, li122, li150, li200, li255, li400, li500, li600, li999, li1000, li1001, li2000, li2001, li2002, li2003, li2004, li2005, li2006, li32767, li100000, li_neg, li13, li17, li21, li22, li28, li29, li33, li34, li35, li37, li38, li39, li46, li49, li50, li51, li52, li53, li63, li80, li115, li160]
  · obtain ⟨k, hk6⟩ : ∃ k, X 0 6 = k + 1 := ⟨X 0 6 - 1, by omega⟩
    obtain ⟨g, q1, q2⟩ := hi k (by omega)
    have q2' : CIj M o P (I k) g := q2
    obtain ⟨⟨q3, q4⟩, q5, q6, q7⟩ := q2
    have oI := hO.2.2.2.2.2 k (by show k < X 0 6; omega)
    dsimp only at oI
    have oW := oI.1
    have e0 : isW (sI M (o + 16) 3 (nI k)) (g + 1) P (I k 0) := q5.fr ((Fr.rf (fun x => x = o + 16) M).sI rfl) (fun x h1 h2 z => by omega)
    obtain ⟨N, e1, e2, e3⟩ := C_becomeW (o := o + 8) (M := sI M (o + 16) 3 (nI k)) (by omega) oP e0 oW.1
    have f1 : Fr (fun a => rg (o + 8) 8 a ∨ a = o + 16) M N := ((Fr.rf _ M).sI (Or.inr rfl)).trans (e3.mono (fun a ha => Or.inl ha))
    have g1 : gI N g 1 = nI (I k 1 0 0) := by rw [f1.i (by unfold rg; omega)]; exact q6
    obtain ⟨N2, c1, c2, c3⟩ := C_copyWorks (M := sI N (o + 16) 1 (nI (I k 1 0 0))) (s := g + 9) (t := o + 16 + 1) (by omega) oI.2.1
    have f2 : Fr (fun a => rg (o + 8) 8 a ∨ a = o + 16 ∨ a = o + 17 ∨ a = o) M (sI N2 o 16 (nI 0)) := (((f1.mono (fun a ha => ha.elim Or.inl (fun z => Or.inr (Or.inl z)))).sI (Or.inr (Or.inl rfl))).trans (c3.mono (fun a ha => Or.inr (Or.inr (Or.inl ha))))).sI (Or.inr (Or.inr (Or.inr rfl)))
    have f9 : ∀ a, ¬ (rg (o + 8) 8 a ∨ a = o + 16 ∨ a = o + 17 ∨ a = o) → ∀ j, gI (sI N2 o 16 (nI 0)) a j = gI M a j := fun a ha j => f2.i ha j
    have g16 : ∀ j, j ≠ 1 → gI N2 (o + 16) j = gI (sI M (o + 16) 3 (nI k)) (o + 16) j := fun j hj => by rw [c3.i (by omega), gI_ne (by omega)]; exact e3.i (by unfold rg; omega) j
    have g161 : gI N2 (o + 16) 1 = nI (I k 1 0 0) := by rw [c3.i (by omega)]; exact gI_same ..
    have g0 : ∀ j, gI N2 o j = gI M o j := fun j => by rw [c3.i (by omega), gI_ne (by omega)]; exact f1.i (by unfold rg; omega) j
    have xr : ∀ i, i ≠ 0 → (up (up (up X 0 6 k) 0 5 (I k 1 0 0)) 0 2 0) i = X i := fun i h1 => by rw [up_row h1, up_row h1, up_row h1]
    have x6 : (up (up (up X 0 6 k) 0 5 (I k 1 0 0)) 0 2 0) 0 6 = k := by rw [up_n (by omega), up_n (by omega), up_s]
    have x5 : (up (up (up X 0 6 k) 0 5 (I k 1 0 0)) 0 2 0) 0 5 = I k 1 0 0 := by rw [up_n (by omega), up_s]
    have x2 : (up (up (up X 0 6 k) 0 5 (I k 1 0 0)) 0 2 0) 0 2 = 0 := up_s ..
    have xo : ∀ i, i ≠ 2 → i ≠ 5 → i ≠ 6 → (up (up (up X 0 6 k) 0 5 (I k 1 0 0)) 0 2 0) 0 i = X 0 i := fun i h1 h2 h3 => by rw [up_n (by omega), up_n (by omega), up_n (by omega)]
    have hX : ((up (up (up X 0 6 k) 0 5 (I k 1 0 0)) 0 2 0) 0 7 = X 0 7 ∧ (up (up (up X 0 6 k) 0 5 (I k 1 0 0)) 0 2 0) 0 8 = X 0 8) ∧ (up (up (up X 0 6 k) 0 5 (I k 1 0 0)) 0 2 0) 2 = X 2 ∧ (up (up (up X 0 6 k) 0 5 (I k 1 0 0)) 0 2 0) 3 = X 3 ∧ (up (up (up X 0 6 k) 0 5 (I k 1 0 0)) 0 2 0) 4 = X 4 := ⟨⟨xo 7 (by omega) (by omega) (by omega), xo 8 (by omega) (by omega) (by omega)⟩, xr 2 (by omega), xr 3 (by omega), xr 4 (by omega)⟩
    have eqx1 : eqx (fun a => rg (o + 8) 8 a ∨ a = o + 16 ∨ a = o + 17 ∨ a = o) M (sI N2 o 16 (nI 0)) := f2.eqx (fun a ha => ha)
    refine ag0W h (v := nI k) (M' := sI N2 o 16 (nI 0)) (S' := (P, I k 0, up (up (up X 0 6 k) 0 5 (I k 1 0 0)) 0 2 0, fun i => I k (2 + i), I)) ?_ ?_ ?_ ⟨⟨by rw [f2.1.1]; exact Nat.le_refl _, h.2.2.2.2.fr f2⟩, fun a j h1 h2 => f9 a (by unfold rg; omega) j⟩ (fun M1 hm => ?_)
    · have e7 : gI N2 (o + 16) 3 = nI k := by rw [g16 3 (by omega)]; exact gI_same ..
      rw [hk6] at t8
      simp (disch := omega) only [f_C_restore, f_Past_takeImage, t8, pk_sub, q1, e1, g1, c1, e7, Nat.add_sub_cancel, bI_s, bV_s, bL_s, bR_s, bG_s, bG_n, bX_l, bX_r, ck_nI, nI_clamp, nI_leT, nI_leF, nI_ltT, nI_ltF, nI_eqF, nI_add, pk_mul, ofN, bt_e, or0, Nat.zero_add, Nat.add_zero, ↓reduceIte, if_true, if_false, Bool.false_eq_true, eq_self, li0, li1, li2, li3, li4, li5, li6, li7, li8, li9, li10, li11, li12, li14, li15, li16, li18, li19, li20, li23, li24, li25, li26, li27, li30, li31, li32, li36, li40, li41, li42, li43, li44, li45, li47, li48, li57, li59, li60, li91, li93, li96, li97, li100, li105, li122, li150, li200, li255, li400, li500, li600, li999, li1000, li1001, li2000, li2001, li2002, li2003, li2004, li2005, li2006, li32767, li100000, li_neg, li13, li17, li21, li22, li28, li29, li33, li34, li35, li37, li38, li39, li46, li49, li50, li51, li52, li53, li63, li80, li115, li160, gI_same, gI_ne, gI_eq2, gR_sI, gL_sI, gI_sL, gR_sL, gI_sR, gL_sR]
    · refine CIwl h.1 hX (fun a h1 h2 h3 j => f9 a (by unfold rg; omega) j) (fun j => ?_) ⟨⟨?_, ?_⟩, fun i hi' => ?_, ⟨?_, ?_, ?_⟩, ?_, ?_⟩ ?_ (fun i hi' => ?_) ?_
      · show gR N2 o j = _
        rw [c3.r (by omega)]
        show gR N o j = _
        exact f1.r (by unfold rg; omega) j
      · rw [f9 _ (by unfold rg; omega), xo 0 (by omega) (by omega) (by omega)]; exact t1
      · rw [f9 _ (by unfold rg; omega), xo 1 (by omega) (by omega) (by omega)]; exact t2
      · rw [xo 0 (by omega) (by omega) (by omega)] at hi'
        rw [f9 _ (by unfold rg; omega), xr 1 (by omega)]; exact t3 i hi'
      · rw [x2]; exact gI_same ..
      · rw [gI_ne (by omega), g0, xo 3 (by omega) (by omega) (by omega)]; exact t5
      · rw [gI_ne (by omega), g0, xo 4 (by omega) (by omega) (by omega)]; exact t6
      · rw [gI_ne (by omega), g161, x5]
      · rw [gI_ne (by omega), g16 3 (by omega), x6]; exact gI_same ..
      · have y1 : isW (sI N (o + 16) 1 (nI (I k 1 0 0))) (o + 8) P (I k 0) := e2.fr ((Fr.rf (fun x => x = o + 16) N).sI rfl) (fun x h1 h2 z => by omega)
        exact (y1.fr c3 (fun x h1 h2 (z : x = o + 16 + 1) => by omega)).fr ((Fr.rf (fun x => x = o) N2).sI rfl) (fun x h1 h2 z => by omega)
      · rw [x5] at hi'
        obtain ⟨w, y1, y2, y3⟩ := q7 i hi'
        have z6 := y2.1
        have z8 := y2.2
        refine ⟨w, ?_, y2.mv eqx1.1, y3.eqx eqx1 (fun a h1 h2 => ⟨by omega, by unfold rg; omega⟩)⟩
        show gR N2 (o + 17) i = _
        rw [c2 i hi']
        show gR N (g + 9) i = _
        rw [f1.r (by unfold rg; omega)]; exact y1
      · have h8 : CIi M o P (up (up (up X 0 6 k) 0 5 (I k 1 0 0)) 0 2 0) I := fun j hj => hi j (by rw [x6] at hj; omega)
        exact h8.mv eqx1 hn (by unfold rg; omega) (fun a ha => by unfold rg; omega)
    · obtain ⟨⟨_, _⟩, ⟨o1, o2⟩, o3, ⟨o4, o5⟩, o6', o7⟩ := hO
      dsimp only at o1 o2 o3 o4 o5 o6' o7
      refine ⟨⟨oP, oW⟩, ⟨?_, ?_⟩, ?_, ⟨?_, fun i hi' => ?_⟩, ?_, fun j hj => ?_⟩
      · dsimp only; rw [xo 0 (by omega) (by omega) (by omega), xr 1 (by omega)]; exact o1
      · dsimp only; rw [hX.1.1, hX.2.1]; exact o2
      · dsimp only; rw [hX.1.2, hX.2.2.1, hX.2.2.2]; exact o3
      · dsimp only; rw [x5]; exact oI.2.1
      · dsimp only at hi' ⊢; rw [x5] at hi'; exact oI.2.2 i hi'
      · dsimp only; rw [x6]; omega
      · dsimp only at hj ⊢; rw [x6] at hj; exact o7 j (by omega)
    · have u1 : gI (sI M1 (o + 61) 0 (nI 0)) (o + 61) 40 = nI (X 0 6) := hm.2.1.2.2.2.2
      rw [hk6] at u1
      obtain ⟨⟨m1, m2⟩, ⟨⟨y1, y2⟩, y3, ⟨y4, y5, y6⟩, y7, y8⟩, ⟨m5, m6⟩, m7, m8⟩ := id hm
      dsimp only at m1 m2 y1 y2 y3 y4 y5 y6 y7 y8 m5 m6 m7 m8
      have oJ := hO.2.2.2.2.2
      dsimp only at oJ
      generalize hM0 : sI M1 (o + 61) 0 (nI 0) = M0 at *
      obtain ⟨N, z1, z2, z3, z4⟩ := M_puts1 (M := sI M0 (o + 61) 40 (nI k)) (m := o + 61) (r := o + 61 + 489 + 1 + k) (by omega)
      have hsc : ∀ a i, (∃ s, s < 1786 ∧ a = sc (o + 61) s ∧ i = sj s) → (a = o + 61 ∧ i = 38) ∨ a = o + 61 + 470 ∨ (o + 61 + 473 ≤ a ∧ a < o + 61 + 489) := fun a i ⟨s, hs, ea, ei⟩ => by
        have := sc_b (m := o + 61) hs
        omega
      have fM : ∀ a j, ¬ (a = o + 61 ∧ (j = 38 ∨ j = 39 ∨ j = 40 ∨ j = 41)) → a ≠ o + 61 + 470 → ¬ (o + 61 + 473 ≤ a ∧ a < o + 61 + 489) → gI (sI N (o + 61) 39 (nI 0)) a j = gI M0 a j := fun a j h1 h2 h3 => by
        rw [gI_ne (by omega), z3 a j (by omega) (fun s hs z => by have := hsc a j ⟨s, hs, z⟩; omega), gI_ne (by omega)]
      have fS : ∀ s, s < 1786 → gI (sI N (o + 61) 39 (nI 0)) (sc (o + 61) s) (sj s) = gI M0 (o + 61 + 489 + 1 + k) s := fun s hs => by
        have := sc_b (m := o + 61) hs
        rw [gI_ne (by omega), z2 s hs, gI_ne (by omega)]
      refine ⟨sI N (o + 61) 39 (nI 0), ?_, ?_, ⟨⟨z4.1.1, z4.1.2⟩, fun a j ha => fM a j (by omega) (by omega) (by omega), fun a j ha => z4.l (by unfold rg; omega) j, fun a j ha => z4.r (by unfold rg; omega) j⟩⟩
      · have e7 : gI N (o + 61) 40 = nI k := by rw [z3 _ _ (by omega) (fun s hs z => by have := hsc _ _ ⟨s, hs, z⟩; omega)]; exact gI_same ..
        simp (disch := omega) only [f_M_restore, li0, hM0, u1, pk_sub, z1, e7, Nat.add_sub_cancel, bI_s, bV_s, bL_s, bR_s, bG_s, bG_n, bX_l, bX_r, ck_nI, nI_clamp, nI_leT, nI_leF, nI_ltT, nI_ltF, nI_eqF, nI_add, pk_mul, ofN, bt_e, or0, Nat.zero_add, Nat.add_zero, ↓reduceIte, if_true, if_false, Bool.false_eq_true, eq_self, li0, li1, li2, li3, li4, li5, li6, li7, li8, li9, li10, li11, li12, li14, li15, li16, li18, li19, li20, li23, li24, li25, li26, li27, li30, li31, li32, li36, li40, li41, li42, li43, li44, li45, li47, li48, li57, li59, li60, li91, li93, li96, li97, li100, li105, li122, li150, li200, li255, li400, li500, li600, li999, li1000, li1001, li2000, li2001, li2002, li2003, li2004, li2005, li2006, li32767, li100000, li_neg, li13, li17, li21, li22, li28, li29, li33, li34, li35, li37, li38, li39, li46, li49, li50, li51, li52, li53, li63, li80, li115, li160, gI_same, gI_ne, gI_eq2, gR_sI, gL_sI, gI_sL, gR_sL, gI_sR, gL_sR]
      · have q9 := m8 k (by omega)
        refine MJwl hm oP hO.2.1.2 hO.2.2.1.1 hX (fun a j ha => fM a j (by unfold qrg at ha; omega) (by unfold qrg at ha; omega) (by unfold qrg at ha; omega)) ⟨⟨?_, ?_⟩, fun i hi' => ?_, ⟨?_, ?_, ?_⟩, ?_, ?_⟩ ?_ (fun i hi' => ?_) (fun j hj => ?_)
        · rw [fM _ _ (by omega) (by omega) (by omega), xo 0 (by omega) (by omega) (by omega)]; exact y1
        · rw [fM _ _ (by omega) (by omega) (by omega), xo 1 (by omega) (by omega) (by omega)]; exact y2
        · rw [xo 0 (by omega) (by omega) (by omega)] at hi'
          rw [fM _ _ (by omega) (by omega) (by omega), xr 1 (by omega)]; exact y3 i hi'
        · rw [x2]; exact gI_same ..
        · rw [fM _ _ (by omega) (by omega) (by omega), xo 3 (by omega) (by omega) (by omega)]; exact y5
        · rw [fM _ _ (by omega) (by omega) (by omega), xo 4 (by omega) (by omega) (by omega)]; exact y6
        · rw [x5]
          have := fS 0 (by omega)
          have z0 : sc (o + 61) 0 = o + 61 ∧ sj 0 = 38 := ⟨rfl, rfl⟩
          rw [z0.1, z0.2] at this
          rw [this]; exact q9.1
        · rw [x6, gI_ne (by omega), z3 _ _ (by omega) (fun s hs z => by have := hsc _ _ ⟨s, hs, z⟩; omega)]; exact gI_same ..
        · refine isNr.cg q9.2.1 oP oW.1 (fun i hi' => ?_)
          obtain ⟨s1, s2⟩ := sc_n (m := o + 61) hi'
          have := fS (1 + i) (by omega)
          rw [s1, s2] at this
          exact this
        · rw [x5] at hi'
          refine isNr.cg (q9.2.2 i hi') oP (oI.2.2 i hi').1 (fun t ht => ?_)
          obtain ⟨s1, s2⟩ := sc_w (m := o + 61) (w := i) ht
          have := fS (106 + 105 * i + t) (by have := oI.2.1; omega)
          rw [s1, s2] at this
          exact this
        · rw [x6] at hj
          have q9 := m8 j (by omega)
          have o9 := oJ j (by omega)
          exact ⟨by rw [fM _ _ (by omega) (by omega) (by omega)]; exact q9.1, isNr.cg q9.2.1 oP o9.1.1 (fun t _ => fM _ _ (by omega) (by omega) (by omega)), fun i hi' => isNr.cg (q9.2.2 i hi') oP (o9.2.2 i hi').1 (fun t _ => fM _ _ (by omega) (by omega) (by omega))⟩
end
