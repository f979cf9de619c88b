/-! # functional level, 19: changes of the state; undo -/
def FC (o : Nat) (M M' : Mm) : Prop := (nx M ≤ nx M' ∧ kz M') ∧ ∀ a j, o + 61 ≤ a → a < o + 560 → gI M' a j = gI M a j
/-- cells below b as before -/
def Lo (b : Nat) (M M' : Mm) : Prop := ∀ a, a < b → kd M' a = kd M a ∧ (∀ j, gI M' a j = gI M a j) ∧ (∀ j, gL M' a j = gL M a j) ∧ ∀ j, gR M' a j = gR M a j
section
variable {M M' M1 M2 N : Mm} {o m b : Nat} {S S' : St} {P W X X' W' : TT} {V V' : Nat → TT} {I I' : Nat → Nat → TT}
theorem agW {β : Type} {code : Nat → Int32} {st : β → Int64} {ks : Nat → Prop} {c : Option ((β × Mm) ⊕ (Nat × Mm))} {f : Mm → Option (β × Mm)} (h : InvS o M S) {v : β} (hc : c = some (Sum.inl (v, M'))) (hC' : CI M' o S') (hO' : oS S') (hfr : FC o M M') (hf : ∀ M1, MJ (sI M1 (o + 61) 0 (nI 0)) (o + 61) S → ∃ M2, f M1 = some (v, M2) ∧ gI M2 (o + 61) 0 = nI 0 ∧ MJ M2 (o + 61) S' ∧ FA (o + 61) (sI M1 (o + 61) 0 (nI 0)) M2) : Ag code st o ks c f := by
  obtain ⟨hC, hM, hO, hn, hz⟩ := h
  refine ⟨_, hc, fun k' M1 e => (nomatch e), fun z M1 hw => ?_⟩
  obtain ⟨hz1, e⟩ := hw
  dsimp only at e
  have hm1 : MJ (sI M1 (o + 61) 0 (nI 0)) (o + 61) S := hM.mv hO (fun a j h1 h2 h3 => by
    subst e
    rw [gI_ne (by unfold scM at h3; omega)]
    show gI M' a j = _
    exact hfr.2 a j h1 (by omega))
  obtain ⟨M2, e2, e3, e4, e5⟩ := hf M1 hm1
  have f1 : FA (o + 61) M1 M2 := ⟨⟨e5.1.1, e5.1.2⟩, fun a j ha => by rw [e5.2.1 a j ha]; exact gI_ne (by omega), fun a j ha => e5.2.2.1 a j ha, fun a j ha => e5.2.2.2 a j ha⟩
  have c2 : CI M1 o S' := by subst e; exact hC'
  have n1 : nx M1 = nx M' := by subst e; rfl
  have n2 := hfr.1.1
  refine ⟨v, M2, e2, by rw [e3, hz1]; rfl, fun _ => ?_, S', f1.ci c2 (by omega), e4, hO', ?_, ?_⟩
  · rw [f1.2.2.1 _ _ (by omega)]
    subst e
    exact gL_same ..
  · rw [f1.1.1]; omega
  · refine f1.kz ?_
    intro a ha
    subst e
    exact hfr.1.2 a ha
theorem ag0W {c : Option (Int32 × Mm)} {f : Mm → Option (Int32 × Mm)} (h : InvS o M S) {v : Int32} (hc : c = some (v, M')) (hC' : CI M' o S') (hO' : oS S') (hfr : FC o M M') (hf : ∀ M1, MJ (sI M1 (o + 61) 0 (nI 0)) (o + 61) S → ∃ M2, f M1 = some (v, M2) ∧ MJ M2 (o + 61) S' ∧ FA (o + 61) (sI M1 (o + 61) 0 (nI 0)) M2) : Ag0 o c f := by
  obtain ⟨hC, hM, hO, hn, hz⟩ := h
  have hm1 : MJ (sI M' (o + 61) 0 (nI 0)) (o + 61) S := hM.mv hO (fun a j h1 h2 h3 => by
    rw [gI_ne (by unfold scM at h3; omega)]
    exact hfr.2 a j h1 (by omega))
  obtain ⟨M2, e2, e4, e5⟩ := hf M' hm1
  have f1 : FA (o + 61) M' M2 := ⟨⟨e5.1.1, e5.1.2⟩, fun a j ha => by rw [e5.2.1 a j ha]; exact gI_ne (by omega), fun a j ha => e5.2.2.1 a j ha, fun a j ha => e5.2.2.2 a j ha⟩
  have n2 := hfr.1.1
  exact ⟨v, M', hc, M2, e2, S', f1.ci hC' (by omega), e4, hO', by rw [f1.1.1]; omega, f1.kz hfr.1.2⟩
theorem CIwl (h : CI M o (P, W, X, V, I)) (hX : (X' 0 7 = X 0 7 ∧ X' 0 8 = X 0 8) ∧ X' 2 = X 2 ∧ X' 3 = X 3 ∧ X' 4 = X 4) (eq : ∀ a, o + 37 ≤ a → a < o + 61 → ¬ scr o a → ∀ j, gI M' a j = gI M a j) (hR : ∀ j, gR M' o j = gR M o j) (ht : CIt M' o X') (hW' : isW M' (o + 8) P W') (hv : CIv M' o P X' V') (hi : CIi M' o P X' I') : CI M' o (P, W', X', V', I') := by
  obtain ⟨p, l, d, hr, ⟨h1, h2⟩, _, ⟨h5, h6⟩, _⟩ := h
  dsimp only at h1 h5 h6
  have hp := hr.1.1
  have hl := hr.1.2.1
  have hd := hr.1.2.2
  refine ⟨p, l, d, ?_, ⟨?_, hW'⟩, ht, ⟨?_, ?_⟩, hv, hi⟩
  · unfold CIr at hr ⊢
    rw [hR, hR, hR, hR, hR, hR]; exact hr
  · obtain ⟨⟨q1, q2, q3⟩, q4, q5, q6, q7⟩ := h1
    have g : ∀ i, i < 8 → ∀ j, gI M' (p + i) j = gI M (p + i) j := fun i hi j => eq _ (by omega) (by omega) (by unfold scr; omega) j
    have g0 := g 0 (by omega)
    refine ⟨⟨by rw [← q1]; exact g0 0, by rw [← q2]; exact g0 2, by rw [← q3]; exact g0 5⟩, fun k hk => ?_, fun k hk => ⟨?_, ?_⟩, fun k hk => ⟨?_, ?_, ?_⟩, fun k hk => ?_⟩
    · rw [g 1 (by omega)]; exact q4 k hk
    · rw [g 2 (by omega)]; exact (q5 k hk).1
    · rw [g 3 (by omega)]; exact (q5 k hk).2
    · rw [g 4 (by omega)]; exact (q6 k hk).1
    · rw [g 5 (by omega)]; exact (q6 k hk).2.1
    · rw [g 6 (by omega)]; exact (q6 k hk).2.2
    · rw [g 7 (by omega)]; exact q7 k hk
  · dsimp only
    rw [hX.1.1, hX.2.1]
    have e1 : ∀ j, gI M' l j = gI M l j := fun j => eq l (by omega) (by omega) (by unfold scr; omega) j
    have e2 : ∀ j, gI M' (l + 1) j = gI M (l + 1) j := fun j => eq (l + 1) (by omega) (by omega) (by unfold scr; omega) j
    unfold isLw isL at h5 ⊢
    simp only [e1, e2]
    exact h5
  · dsimp only
    rw [hX.1.2, hX.2.2.1, hX.2.2.2]
    unfold isD at h6 ⊢
    rw [eq d (by omega) (by omega) (by unfold scr; omega), eq d (by omega) (by omega) (by unfold scr; omega)]
    exact h6
theorem MJwl (h : MJ M m (P, W, X, V, I)) (oP : okP P) (oK : okK (X 0 7) (X 2)) (o8 : X 0 8 ≤ 10) (hX : (X' 0 7 = X 0 7 ∧ X' 0 8 = X 0 8) ∧ X' 2 = X 2 ∧ X' 3 = X 3 ∧ X' 4 = X 4) (eq : ∀ a j, qrg m a ∨ (m + 43 ≤ a ∧ a < m + 204) ∨ (m + 365 ≤ a ∧ a < m + 376) ∨ (a = m ∧ (j = 23 ∨ j = 37)) → gI M' a j = gI M a j) (ht : MIt M' m X') (hN' : isN M' (m + 470) P W') (hv : MIv M' m P X' V') (hi : MIi M' m P X' I') : MJ M' m (P, W', X', V', I') := by
  obtain ⟨⟨h1, h2⟩, _, ⟨h5, h6⟩, _⟩ := h
  dsimp only at h1 h5 h6
  have hB := oP.b
  have hW := oP.w
  have hn := oK.1
  have e1 : ∀ x, qrg m x → ∀ j, gI M' x j = gI M x j := fun x hx j => eq x j (Or.inl hx)
  refine ⟨⟨⟨⟨?_, ?_, ?_⟩, fun k hk => ?_, fun k hk => ⟨?_, ?_⟩, fun k hk => ⟨?_, ?_, ?_⟩, fun k hk => ?_⟩, hN'⟩, ht, ⟨⟨?_, fun k hk => ⟨?_, ?_⟩⟩, ?_, fun k hk => ⟨?_, ?_⟩⟩, hv, hi⟩
  · rw [e1 _ (by unfold qrg; omega)]; exact h1.r
  · rw [e1 _ (by unfold qrg; omega)]; exact h1.b
  · rw [e1 _ (by unfold qrg; omega)]; exact h1.w
  · rw [e1 _ (by unfold qrg; omega)]; exact h1.wide hk
  · dsimp only at hk; rw [e1 _ (by unfold qrg; omega)]; exact h1.act hk
  · dsimp only at hk; rw [e1 _ (by unfold qrg; omega)]; exact h1.len hk
  · dsimp only at hk; rw [e1 _ (by unfold qrg; omega)]; exact h1.rch hk
  · dsimp only at hk; rw [e1 _ (by unfold qrg; omega)]; exact h1.chk hk
  · rw [e1 _ (by unfold qrg; omega)]; exact h1.kn hk
  · rw [e1 _ (by unfold qrg; omega)]; exact h1.kin hk
  · dsimp only; rw [eq _ _ (by omega), hX.1.1]; exact h5.1
  · dsimp only at hk ⊢; rw [hX.1.1] at hk; rw [eq _ _ (by omega), hX.2.1]; exact (h5.2 k hk).1
  · dsimp only at hk ⊢; rw [hX.1.1] at hk; rw [eq _ _ (by omega), hX.2.1]; exact (h5.2 k hk).2
  · dsimp only; rw [eq _ _ (by omega), hX.1.2]; exact h6.1
  · dsimp only at hk ⊢; rw [hX.1.2] at hk; rw [eq _ _ (by omega), hX.2.2.1]; exact (h6.2 k hk).1
  · dsimp only at hk ⊢; rw [hX.1.2] at hk; rw [eq _ _ (by omega), hX.2.2.2]; exact (h6.2 k hk).2
theorem up_row {X : TT} {k v i : Nat} (hi : i ≠ 0) : up X 0 k v i = X i := funext (fun j => up_n (by omega))
theorem A_undo (h : InvS o M S) : Ag0 o (f_C_undo o M) (fun M1 => f_M_undo (o + 61) M1) := by
  obtain ⟨P, W, X, V, I⟩ := S
  obtain ⟨p, l, d, hr, ⟨hP, hW⟩, ⟨⟨t1, t2⟩, t3, ⟨t4, t5, t6⟩, t7, t8⟩, ⟨hL, hD⟩, hv, hi⟩ := id h.1
  dsimp only at hP hW t1 t2 t3 t4 t5 t6 t7 t8 hL hD hv hi
  have hO := h.2.2.1
  have hn := h.2.2.2.1
  have oP : okP P := hO.1.1
  have ow : X 0 5 ≤ 16 := hO.2.2.2.1.1
  by_cases c : X 0 5 = 0
  · rw [c] at t7
    refine ag0R0 h (v := nI 4294967295) ?_ (fun M1 hm => ?_)
    · simp (disch := omega) only [f_C_undo, f_Past_takeBackWork, t7, bI_s, bV_s, bL_s, bR_s, bG_s, bG_n, bX_l, bX_r, ck_nI, nI_clamp, nI_leT, nI_leF, nI_ltT, nI_ltF, nI_eqF, nI_add, pk_mul, ofN, bt_e, or0, Nat.zero_add, Nat.add_zero, ↓reduceIte, if_true, if_false, Bool.false_eq_true, eq_self, li0, li1, li2, li3, li4, li5, li6, li7, li8, li9, li10, li11, li12, li14, li15, li16, li18, li19, li20, li23, li24, li25, li26, li27, li30, li31, li32, li36, li40, li41, li42, li43, li44, li45, li47, li48, li57, li59, li60, li91, li93, li96, li97, li100, li105, li122, li150, li200, li255, li400, li500, li600, li999, li1000, li1001, li2000, li2001, li2002, li2003, li2004, li2005, li2006, li32767, li100000, li_neg, li13, li17, li21, li22, li28, li29, li33, li34, li35, li37, li38, li39, li46, li49, li50, li51, li52, li53, li63, li80, li115, li160]
    · have e : gI (sI M1 (o + 61) 0 (nI 0)) (o + 61) 38 = nI (X 0 5) := hm.2.1.2.2.2.1
      rw [c] at e
      simp (disch := omega) only [f_M_undo, e, bI_s, bV_s, bL_s, bR_s, bG_s, bG_n, bX_l, bX_r, ck_nI, nI_clamp, nI_leT, nI_leF, nI_ltT, nI_ltF, nI_eqF, nI_add, pk_mul, ofN, bt_e, or0, Nat.zero_add, Nat.add_zero, ↓reduceIte, if_true, if_false, Bool.false_eq_true, eq_self, li0, li1, li2, li3, li4, li5, li6, li7, li8, li9, li10, li11, li12, li14, li15, li16, li18, li19, li20, li23, li24, li25, li26, li27, li30, li31, li32, li36, li40, li41, li42, li43, li44, li45, li47, li48, li57, li59, li60, li91, li93, li96, li97, li100, li105, li122, li150, li200, li255, li400, li500, li600, li999, li1000, li1001, li2000, li2001, li2002, li2003, li2004, li2005, li2006, li32767, li100000, li_neg, li13, li17, li21, li22, li28, li29, li33, li34, li35, li37, li38, li39, li46, li49, li50, li51, li52, li53, li63, li80, li115, li160]
  · obtain ⟨w, hw⟩ : ∃ w, X 0 5 = w + 1 := ⟨X 0 5 - 1, by omega⟩
    have oW : okD P (V w) := hO.2.2.2.1.2 w (by show w < X 0 5; omega)
    obtain ⟨q, q1, ⟨q2, q3⟩, q4⟩ := hv w (by omega)
    have e0 : isW (sI M (o + 16) 1 (nI w)) q P (V w) := q4.fr ((Fr.rf (fun x => x = o + 16) M).sI rfl) (fun x hx hx2 z => by omega)
    obtain ⟨N, e1, e2, e3⟩ := C_becomeW (o := o + 8) (M := sI M (o + 16) 1 (nI w)) (by omega) oP e0 oW.1
    have f0 : Fr (fun a => rg (o + 8) 8 a ∨ a = o + 16 ∨ a = o) M (sI N o 16 (nI 0)) := ((((Fr.rf _ M).sI (Or.inr (Or.inl rfl))).trans (e3.mono (fun a ha => Or.inl ha)))).sI (Or.inr (Or.inr rfl))
    have f9 : ∀ a, ¬ (rg (o + 8) 8 a ∨ a = o + 16 ∨ a = o) → ∀ j, gI (sI N o 16 (nI 0)) a j = gI M a j := fun a ha j => f0.i ha j
    have g1 : ∀ j, gI N (o + 16) j = gI (sI M (o + 16) 1 (nI w)) (o + 16) j := fun j => e3.i (by unfold rg; omega) j
    have g0 : ∀ j, gI N o j = gI M o j := fun j => by rw [e3.i (by unfold rg; omega), gI_ne (by omega)]
    have hX : ((up (up X 0 5 w) 0 2 0) 0 7 = X 0 7 ∧ (up (up X 0 5 w) 0 2 0) 0 8 = X 0 8) ∧ (up (up X 0 5 w) 0 2 0) 2 = X 2 ∧ (up (up X 0 5 w) 0 2 0) 3 = X 3 ∧ (up (up X 0 5 w) 0 2 0) 4 = X 4 := ⟨⟨by rw [up_n (by omega), up_n (by omega)], by rw [up_n (by omega), up_n (by omega)]⟩, by rw [up_row (by omega), up_row (by omega)], by rw [up_row (by omega), up_row (by omega)], by rw [up_row (by omega), up_row (by omega)]⟩
    have x5 : (up (up X 0 5 w) 0 2 0) 0 5 = w := by rw [up_n (by omega), up_s]
    have x6 : (up (up X 0 5 w) 0 2 0) 0 6 = X 0 6 := by rw [up_n (by omega), up_n (by omega)]
    have x2 : (up (up X 0 5 w) 0 2 0) 0 2 = 0 := up_s ..
    have xo : ∀ k, k ≠ 2 → k ≠ 5 → (up (up X 0 5 w) 0 2 0) 0 k = X 0 k := fun k h1 h2 => by rw [up_n (by omega), up_n (by omega)]
    have x1 : (up (up X 0 5 w) 0 2 0) 1 = X 1 := by rw [up_row (by omega), up_row (by omega)]
    have eqx1 : eqx (fun a => rg (o + 8) 8 a ∨ a = o + 16 ∨ a = o) M (sI N o 16 (nI 0)) := f0.eqx (fun a ha => ha)
    refine ag0W h (v := nI w) (M' := sI N o 16 (nI 0)) (S' := (P, V w, up (up X 0 5 w) 0 2 0, V, I)) ?_ ?_ ?_ ⟨⟨by rw [f0.1.1]; exact Nat.le_refl _, fun a ha => by rw [f0.1.2]; exact h.2.2.2.2 a (by rw [f0.1.1] at ha; exact ha)⟩, fun a j h1 h2 => f9 a (by unfold rg; omega) j⟩ (fun M1 hm => ?_)
    · have e7 : gI N (o + 16) 1 = nI w := by rw [g1]; exact gI_same ..
      rw [hw] at t7
      simp (disch := omega) only [f_C_undo, f_Past_takeBackWork, t7, pk_sub, q1, e1, e7, Nat.add_sub_cancel, bI_s, bV_s, bL_s, bR_s, bG_s, bG_n, bX_l, bX_r, ck_nI, nI_clamp, nI_leT, nI_leF, nI_ltT, nI_ltF, nI_eqF, nI_add, pk_mul, ofN, bt_e, or0, Nat.zero_add, Nat.add_zero, ↓reduceIte, if_true, if_false, Bool.false_eq_true, eq_self, li0, li1, li2, li3, li4, li5, li6, li7, li8, li9, li10, li11, li12, li14, li15, li16, li18, li19, li20, li23, li24, li25, li26, li27, li30, li31, li32, li36, li40, li41, li42, li43, li44, li45, li47, li48, li57, li59, li60, li91, li93, li96, li97, li100, li105, li122, li150, li200, li255, li400, li500, li600, li999, li1000, li1001, li2000, li2001, li2002, li2003, li2004, li2005, li2006, li32767, li100000, li_neg, li13, li17, li21, li22, li28, li29, li33, li34, li35, li37, li38, li39, li46, li49, li50, li51, li52, li53, li63, li80, li115, li160, gI_same, gI_ne, gI_eq2, gR_sI, gL_sI, gI_sL, gR_sL, gI_sR, gL_sR]
    · refine CIwl h.1 hX (fun a h1 h2 h3 j => f9 a (by unfold rg; omega) j) (fun j => ?_) ⟨⟨?_, ?_⟩, fun k hk => ?_, ⟨?_, ?_, ?_⟩, ?_, ?_⟩ ?_ ?_ ?_
      · show gR N o j = _
        rw [e3.r (by unfold rg; omega)]; rfl
      · rw [f9 _ (by unfold rg; omega), xo 0 (by omega) (by omega)]; exact t1
      · rw [f9 _ (by unfold rg; omega), xo 1 (by omega) (by omega)]; exact t2
      · rw [xo 0 (by omega) (by omega)] at hk
        rw [f9 _ (by unfold rg; omega), x1]; exact t3 k hk
      · rw [x2]; exact gI_same ..
      · rw [gI_ne (by omega), g0, xo 3 (by omega) (by omega)]; exact t5
      · rw [gI_ne (by omega), g0, xo 4 (by omega) (by omega)]; exact t6
      · rw [gI_ne (by omega), g1, x5]; exact gI_same ..
      · rw [gI_ne (by omega), g1, gI_ne (by omega), x6]; exact t8
      · exact e2.fr ((Fr.rf (fun x => x = o) N).sI rfl) (fun x h1 h2 z => by omega)
      · have h7 : CIv M o P (up (up X 0 5 w) 0 2 0) V := fun i hi' => hv i (by rw [x5] at hi'; omega)
        exact h7.mv eqx1 hn (by unfold rg; omega) (fun a ha => by unfold rg; omega)
      · have h8 : CIi M o P (up (up X 0 5 w) 0 2 0) I := fun j hj => hi j (by rw [x6] at hj; exact hj)
        exact h8.mv eqx1 hn (by unfold rg; omega) (fun a ha => by unfold rg; omega)
    · obtain ⟨⟨_, _⟩, ⟨o1, o2⟩, o3, ⟨o4, o5⟩, o6, o7⟩ := hO
      dsimp only at o1 o2 o3 o4 o5 o6 o7
      refine ⟨⟨oP, oW⟩, ⟨?_, ?_⟩, ?_, ⟨?_, fun i hi' => ?_⟩, ?_, fun j hj => ?_⟩
      · dsimp only; rw [xo 0 (by omega) (by omega), x1]; exact o1
      · dsimp only; rw [hX.1.1, hX.2.1]; exact o2
      · dsimp only; rw [hX.1.2, hX.2.2.1, hX.2.2.2]; exact o3
      · dsimp only; rw [x5]; omega
      · dsimp only at hi' ⊢; rw [x5] at hi'; exact o5 i (by omega)
      · dsimp only; rw [x6]; exact o6
      · dsimp only at hj ⊢; rw [x6] at hj; exact o7 j hj
    · have u1 : gI (sI M1 (o + 61) 0 (nI 0)) (o + 61) 38 = nI (X 0 5) := hm.2.1.2.2.2.1
      rw [hw] at u1
      obtain ⟨⟨m1, m2⟩, ⟨⟨y1, y2⟩, y3, ⟨y4, y5, y6⟩, y7, y8⟩, ⟨m5, m6⟩, m7, m8⟩ := id hm
      dsimp only at m1 m2 y1 y2 y3 y4 y5 y6 y7 y8 m5 m6 m7 m8
      generalize hM0 : sI M1 (o + 61) 0 (nI 0) = M0 at *
      obtain ⟨N1, z1, z2, z3⟩ := M_copies (M := sI M0 (o + 61) 38 (nI w)) (a := o + 61 + 472 + 1 + w) (b := o + 61 + 470) (by omega)
      have fM : ∀ a j, a ≠ o + 61 + 470 → ¬ (a = o + 61 ∧ (j = 38 ∨ j = 39)) → gI (sI N1 (o + 61) 39 (nI 0)) a j = gI M0 a j := fun a j h1 h2 => by
        rw [gI_ne (by omega), z3.i h1, gI_ne (by omega)]
      refine ⟨sI N1 (o + 61) 39 (nI 0), ?_, ?_, ⟨⟨z3.1.1, z3.1.2⟩, fun a j ha => fM a j (by omega) (by omega), fun a j ha => ?_, fun a j ha => ?_⟩⟩
      · have e7 : gI N1 (o + 61) 38 = nI w := by rw [z3.i (by omega)]; exact gI_same ..
        simp (disch := omega) only [f_M_undo, li0, hM0, u1, pk_sub, z1, e7, Nat.add_sub_cancel, bI_s, bV_s, bL_s, bR_s, bG_s, bG_n, bX_l, bX_r, ck_nI, nI_clamp, nI_leT, nI_leF, nI_ltT, nI_ltF, nI_eqF, nI_add, pk_mul, ofN, bt_e, or0, Nat.zero_add, Nat.add_zero, ↓reduceIte, if_true, if_false, Bool.false_eq_true, eq_self, li0, li1, li2, li3, li4, li5, li6, li7, li8, li9, li10, li11, li12, li14, li15, li16, li18, li19, li20, li23, li24, li25, li26, li27, li30, li31, li32, li36, li40, li41, li42, li43, li44, li45, li47, li48, li57, li59, li60, li91, li93, li96, li97, li100, li105, li122, li150, li200, li255, li400, li500, li600, li999, li1000, li1001, li2000, li2001, li2002, li2003, li2004, li2005, li2006, li32767, li100000, li_neg, li13, li17, li21, li22, li28, li29, li33, li34, li35, li37, li38, li39, li46, li49, li50, li51, li52, li53, li63, li80, li115, li160, gI_same, gI_ne, gI_eq2, gR_sI, gL_sI, gI_sL, gR_sL, gI_sR, gL_sR]
      · refine MJwl hm oP hO.2.1.2 hO.2.2.1.1 hX (fun a j ha => fM a j (by unfold qrg at ha; omega) (by unfold qrg at ha; omega)) ⟨⟨?_, ?_⟩, fun k hk => ?_, ⟨?_, ?_, ?_⟩, ?_, ?_⟩ ?_ (fun i hi' => ?_) (fun j hj => ?_)
        · rw [fM _ _ (by omega) (by omega), xo 0 (by omega) (by omega)]; exact y1
        · rw [fM _ _ (by omega) (by omega), xo 1 (by omega) (by omega)]; exact y2
        · rw [xo 0 (by omega) (by omega)] at hk
          rw [fM _ _ (by omega) (by omega), x1]; exact y3 k hk
        · rw [x2]; exact gI_same ..
        · rw [fM _ _ (by omega) (by omega), xo 3 (by omega) (by omega)]; exact y5
        · rw [fM _ _ (by omega) (by omega), xo 4 (by omega) (by omega)]; exact y6
        · rw [gI_ne (by omega), z3.i (by omega), x5]; exact gI_same ..
        · rw [fM _ _ (by omega) (by omega), x6]; exact y8
        · have q9 := m7 w (by omega)
          refine isNr.cg q9 oP oW.1 (fun k hk => ?_)
          rw [gI_ne (by omega), z2 k hk, gI_ne (by omega)]
        · rw [x5] at hi'
          exact isNr.cg (m7 i (by omega)) oP (hO.2.2.2.1.2 i (by show i < X 0 5; omega)).1 (fun k _ => fM _ _ (by omega) (by omega))
        · rw [x6] at hj
          have q9 := m8 j hj
          have o9 := hO.2.2.2.2.2 j hj
          have o6 : X 0 6 ≤ 3 := hO.2.2.2.2.1
          exact ⟨by rw [fM _ _ (by omega) (by omega)]; exact q9.1, isNr.cg q9.2.1 oP o9.1.1 (fun k _ => fM _ _ (by omega) (by omega)), fun i hi' => isNr.cg (q9.2.2 i hi') oP (o9.2.2 i hi').1 (fun k _ => fM _ _ (by omega) (by omega))⟩
      · show gL N1 a j = _
        rw [z3.l (by omega)]; rfl
      · show gR N1 a j = _
        rw [z3.r (by omega)]; rfl
end
