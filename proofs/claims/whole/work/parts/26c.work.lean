/-! # functional level, 76: what is true of a step -/
section
variable {T : Nat → Nat} {E a n c k op : Nat} {B P : TT} {ρ : Nat → Nat → TT → Ov}
theorem kst_len (r : List Nat) : (kst r = 0 → r.length = 5) ∧ (kst r = 1 → r.length = 4) ∧ (kst r = 2 → r.length = 4) ∧ (kst r = 3 → r.length = 5) ∧ (kst r = 4 → r.length = 5) := by
  unfold kst
  by_cases c0 : r = wWrt
  · rw [if_pos c0, c0]; decide
  rw [if_neg c0]
  by_cases c1 : r = wSlp
  · rw [if_pos c1, c1]; decide
  rw [if_neg c1]
  by_cases c2 : r = wRai
  · rw [if_pos c2, c2]; decide
  rw [if_neg c2]
  by_cases c3 : r = wNig
  · rw [if_pos c3, c3]; decide
  rw [if_neg c3]
  by_cases c4 : r = wAga
  · rw [if_pos c4, c4]; decide
  rw [if_neg c4]
  omega
theorem wfs_rf : ∀ u d lo, wfs P B u d lo lo
  | 0, _, _ => rfl
  | _ + 1, _, _ => Or.inl rfl
theorem gW_one {r : Ov} {k x y z a0 : Nat} (hk : k ≤ 3) (ho : okSp P (bSt B n k x y z (n + 1)) n) (ha : a + 5 ≤ a0) (h1 : r.1 = 0 → (a0 + 1 ≤ r.2.2.1 ∧ r.2.2.1 ≤ E) ∧ r.2.2.2.1 = n + 1 ∧ r.2.2.2.2 = bSt B n k x y z (n + 1)) : gW P E op a n B r := by
  intro h0
  obtain ⟨⟨x1, x2⟩, x3, x4⟩ := h1 h0
  rw [x4, x3]
  exact ⟨⟨by omega, x2, by omega⟩, ⟨by omega, fun i k' hk' => bSt_o (by omega)⟩, bSt_4, 1, wf_one (by omega) ho⟩
theorem wT0_g (hT : ∀ i, i < E → T i < 256) (oP : okP P) (hρ : op < 6 → ∀ a n B, a ≤ E → gWl P E (op + 1) a n B (ρ a n B)) (ha : a ≤ E) : gW P E op a n B (wT0 ρ P T E op a n B) := by
  have hs := sk_b (T := T) ha
  have hl := cR_len (T := T) ha
  have hr := oP.r
  have hb := oP.b
  have hw := oP.w
  obtain ⟨l0, l1, l2, l3, l4⟩ := kst_len (cR T E a)
  unfold wT0
  by_cases c0 : kst (cR T E a) = 0
  · rw [if_pos c0]
    have l0 := l0 c0
    generalize (cR T E a).length = ln at hl l0 ⊢
    intro h
    have k1 := nmW_0 h
    rw [nmW_s k1] at h ⊢
    have b1 := nE_b (T := T) hl
    have b2 := nE_gt hl k1
    have k2 := nmW_0 h
    rw [nmW_s k2] at h ⊢
    have b3 := nE_b (T := T) b1.2
    have b4 := nE_gt b1.2 k2
    have k3 := nmW_0 h
    rw [nmW_s k3] at h ⊢
    have b5 := nE_b (T := T) b3.2
    have b6 := nE_gt b3.2 k3
    have v1 := nK_vs (show P 0 5 ≤ 100 by omega) (by have := nV_lt hl hT; omega) k1
    have v2 := nK_vs (show P 0 2 ≤ 100 by omega) (by have := nV_lt b1.2 hT; omega) k2
    have v3 := nK_vs (show P 0 0 ≤ 100 by omega) (by have := nV_lt b3.2 hT; omega) k3
    refine gW_one (by omega) ?_ (show a + 5 ≤ _ by omega) (sgW_g b5.2) h
    unfold okSp
    rw [bSt_0, bSt_1, bSt_2, bSt_3]
    exact ⟨fun _ => ⟨v1, v2, v3⟩, fun q => by omega, fun q => by omega, fun q => by omega, by omega⟩
  · rw [if_neg c0]
    by_cases c1 : kst (cR T E a) = 1
    · rw [if_pos c1]
      have l1 := l1 c1
      generalize (cR T E a).length = ln at hl l1 ⊢
      intro h
      have k1 := nmW_0 h
      rw [nmW_s k1] at h ⊢
      have b1 := nE_b (T := T) hl
      have b2 := nE_gt hl k1
      have v1 := nK_vs (show P 0 2 ≤ 100 by omega) (by have := nV_lt hl hT; omega) k1
      refine gW_one (by omega) ?_ (show a + 5 ≤ _ by omega) (sgW_g b1.2) h
      unfold okSp
      rw [bSt_0, bSt_1, bSt_2, bSt_3]
      exact ⟨fun q => by omega, fun q => v1, fun q => by omega, fun q => by omega, by omega⟩
    · rw [if_neg c1]
      by_cases c2 : kst (cR T E a) = 2
      · rw [if_pos c2]
        have l2 := l2 c2
        generalize (cR T E a).length = ln at hl l2 ⊢
        intro h
        have k1 := nmW_0 h
        rw [nmW_s k1] at h ⊢
        have b1 := nE_b (T := T) hl
        have b2 := nE_gt hl k1
        have v1 := nV_in hl hT (by omega) (by omega) k1
        refine gW_one (by omega) ?_ (show a + 5 ≤ _ by omega) (sgW_g b1.2) h
        unfold okSp
        rw [bSt_0, bSt_1, bSt_2, bSt_3]
        exact ⟨fun q => by omega, fun q => by omega, fun q => v1.2, fun q => by omega, by omega⟩
      · rw [if_neg c2]
        by_cases c3 : kst (cR T E a) = 3
        · rw [if_pos c3]
          have l3 := l3 c3
          generalize (cR T E a).length = ln at hl l3 ⊢
          intro h
          refine gW_one (by omega) ?_ (show a + 5 ≤ _ by omega) (sgW_g hl) h
          unfold okSp
          rw [bSt_0, bSt_1, bSt_2, bSt_3]
          exact ⟨fun q => by omega, fun q => by omega, fun q => by omega, fun q => by omega, by omega⟩
        · rw [if_neg c3]
          by_cases c4 : kst (cR T E a) = 4
          · rw [if_pos c4]
            have l4 := l4 c4
            by_cases c6 : 6 ≤ op
            · rw [if_pos c6]; intro h; exact absurd h (by show ¬ (3 : Nat) = 0; omega)
            · rw [if_neg c6]
              generalize (cR T E a).length = ln at hl l4 ⊢
              intro h
              have k1 := nmW_0 h
              rw [nmW_s k1] at h ⊢
              have b1 := nE_b (T := T) hl
              have b2 := nE_gt hl k1
              have v1 := nV_in hl hT (by omega) (by omega) k1
              generalize nV T E (sk T E a + ln) = v at h v1 ⊢
              have h1 := bW_0 h
              rw [bW_s h1] at h ⊢
              obtain ⟨⟨x1, x2⟩, x3, x4⟩ := sgW_g b1.2 h1
              generalize sgW T E 91 (nE T E (sk T E a + ln)) (n + 1) (bSt B n 4 v 0 0 0) = r1 at h h1 x1 x2 x3 x4 ⊢
              have h2 := bW_0 h
              rw [bW_s h2] at h ⊢
              obtain ⟨⟨y1, y2, y3⟩, ⟨y4, y5⟩, u, y6⟩ := hρ (by omega) _ _ _ x2 h2
              generalize ρ r1.2.2.1 r1.2.2.2.1 r1.2.2.2.2 = r2 at h h2 y1 y2 y3 y4 y5 y6 ⊢
              obtain ⟨⟨z1, z2⟩, z3, z4⟩ := sgW_g y2 h
              rw [x3] at y3 y4 y5 y6
              rw [x4] at y5
              rw [z3, z4]
              have kn : ∀ i, r2.2.2.2.2 i n = bSt B n 4 v 0 0 0 i n := fun i => y5 i n (by omega)
              refine ⟨⟨by omega, z2, by omega⟩, ⟨by omega, fun i k hk => ?_⟩, up_s .., u + 1, Or.inr ⟨⟨by omega, ?_⟩, ?_, fun q => ?_, fun q => ⟨by omega, ?_⟩, ?_⟩⟩
              · rw [up_n (by omega), y5 i k (by omega), bSt_o (by omega)]
              · unfold okSp
                rw [up_n (by omega), up_n (by omega), up_n (by omega), up_n (by omega), kn, kn, bSt_0, bSt_1]
                exact ⟨fun q => by omega, fun q => by omega, fun q => by omega, fun q => v1.2, by omega⟩
              · rw [up_s]; omega
              · rw [up_n (by omega), kn, bSt_0] at q; omega
              · rw [up_s]
                refine wfs_cg u _ _ _ (fun i k q1 q2 => up_n (by omega)) ?_
                rw [show 6 - op - 1 = 6 - (op + 1) by omega]
                exact y6
              · rw [up_s]; exact wfs_rf ..
          · rw [if_neg c4]; intro h; exact absurd h (by show ¬ (1 : Nat) = 0; omega)
theorem wT_g (hT : ∀ i, i < E → T i < 256) (oP : okP P) : ∀ k op a n B, a ≤ E → gW P E op a n B (wT P T E k op a n B)
  | 0, op, a, n, B => fun _ h => absurd h (by show ¬ (1 : Nat) = 0; omega)
  | k + 1, op, a, n, B => fun ha => wT0_g hT oP (fun _ a n B ha => wI_g (wT_g hT oP k (op + 1)) _ _ _ _ ha) ha
end
/-! # the class's plan -/
section
variable {M M' M1 M2 N : Mm} {t q p E a k f n c op : Nat} {T : Nat → Nat} {B P : TT}
def plD (t q a j : Nat) : Prop := tD t a j ∨ (a = q ∧ j = 4) ∨ (q + 1 ≤ a ∧ a < q + 5)
def isPl (M : Mm) (q n : Nat) (B : TT) : Prop := gI M q 4 = nI n ∧ ∀ k, k < n → gI M (q + 1) k = nI (B 0 k) ∧ (B 0 k = 0 → gI M (q + 2) k = nI (B 1 k) ∧ gI M (q + 3) k = nI (B 2 k) ∧ gI M (q + 4) k = nI (B 3 k)) ∧ (B 0 k = 1 → gI M (q + 2) k = nI (B 2 k)) ∧ (B 0 k = 2 → gI M (q + 2) k = nI (B 1 k)) ∧ (B 0 k = 4 → gI M (q + 2) k = nI (B 1 k) ∧ gI M (q + 3) k = nI (B 4 k))
theorem isPl.mv (h : isPl M q n B) (e0 : gI N q 4 = gI M q 4) (e : ∀ i k, 1 ≤ i → i ≤ 4 → k < n → gI N (q + i) k = gI M (q + i) k) : isPl N q n B := by
  refine ⟨e0.trans h.1, fun k hk => ?_⟩
  rw [e 1 k (by omega) (by omega) hk, e 2 k (by omega) (by omega) hk, e 3 k (by omega) (by omega) hk, e 4 k (by omega) (by omega) hk]
  exact h.2 k hk
theorem isPl.td (h : isPl M q n B) (g : FX (tD t) M N) (ht : t < q) : isPl N q n B := h.mv (g.2.1 _ _ (by unfold tD; omega)) (fun i k _ _ _ => g.2.1 _ _ (by unfold tD; omega))
def cW (M : Mm) (t q : Nat) (T : Nat → Nat) (E : Nat) (r : Ov) : Prop := (r.1 = 0 ∧ CTp M t T E r.2.2.1 0 4294967295 ∧ isPl M q r.2.2.2.1 r.2.2.2.2) ∨ (r.1 ≠ 0 ∧ ∃ a, CTp M t T E a r.1 r.2.1)
theorem FX.tq (h : FX (tD t) M M1) : FX (plD t q) M M1 := h.mono (fun _ _ q => Or.inl q)
theorem C_plput (ht : t + 1 < q) (h : CTp M t T E a 0 f) (hp : isPl M q n B) (hn : n < 25) {z1 z2 z3 : Int32} {B' : TT} (hB : ∀ i k', k' < n → B' i k' = B i k') (h0 : B' 0 n = k) (hz : (k = 0 → z1 = nI (B' 1 n) ∧ z2 = nI (B' 2 n) ∧ z3 = nI (B' 3 n)) ∧ (k = 1 → z1 = nI (B' 2 n)) ∧ (k = 2 → z1 = nI (B' 1 n)) ∧ (k = 4 → z1 = nI (B' 1 n) ∧ z2 = nI (B' 4 n))) : ∃ M', f_Plan_put q t (nI k) z1 z2 z3 M = some M' ∧ FX (fun a j => (a = q ∧ j = 4) ∨ (q + 1 ≤ a ∧ a < q + 5)) M M' ∧ CTp M' t T E a 0 f ∧ isPl M' q (n + 1) B' := by
  have ef := C_fine h
  rw [if_pos rfl] at ef
  have g4 := hp.1
  have fx : FX (fun a j => (a = q ∧ j = 4) ∨ (q + 1 ≤ a ∧ a < q + 5)) M (sI (sI (sI (sI (sI M (q + 1) n (nI k)) (q + 2) n z1) (q + 3) n z2) (q + 4) n z3) q 4 (nI (n + 1))) := (((((FX.rf _ M).sI (by omega)).sI (by omega)).sI (by omega)).sI (by omega)).sI (by omega)
  refine ⟨_, ?_, fx, h.fx fx (fun j q => by omega) (fun j q => by omega), gI_same .., fun k' hk' => ?_⟩
  · simp (disch := omega) only [f_Plan_put, ef, g4, bI_s, bV_s, bL_s, bR_s, bG_s, bG_n, bX_l, bX_r, ck_nI, nI_clamp, nI_leT, nI_leF, nI_ltT, nI_ltF, nI_eqF, nI_add, pk_mul, ofN, bt_e, or0, Nat.zero_add, Nat.add_zero, ↓reduceIte, if_true, if_false, Bool.false_eq_true, eq_self, li0, li1, li2, li3, li4, li5, li6, li7, li8, li9, li10, li11, li12, li14, li15, li16, li18, li19, li20, li23, li24, li25, li26, li27, li30, li31, li32, li36, li40, li41, li42, li43, li44, li45, li47, li48, li57, li59, li60, li91, li93, li96, li97, li100, li105, li122, li150, li200, li255, li400, li500, li600, li999, li1000, li1001, li2000, li2001, li2002, li2003, li2004, li2005, li2006, li32767, li100000, li_neg, li13, li17, li21, li22, li28, li29, li33, li34, li35, li37, li38, li39, li46, li49, li50, li51, li52, li53, li63, li80, li115, li160, gI_same, gI_ne, gI_eq2, gR_sI, gL_sI, gI_sL, gR_sL, gI_sR, gL_sR]
  · by_cases c : k' = n
    · rw [c, h0]
      have e1 : gI (sI (sI (sI (sI (sI M (q + 1) n (nI k)) (q + 2) n z1) (q + 3) n z2) (q + 4) n z3) q 4 (nI (n + 1))) (q + 1) n = nI k := by simp (disch := omega) only [gI_same, gI_ne, gI_eq2, gR_sI, gL_sI, gI_sL, gR_sL, gI_sR, gL_sR]
      have e2 : gI (sI (sI (sI (sI (sI M (q + 1) n (nI k)) (q + 2) n z1) (q + 3) n z2) (q + 4) n z3) q 4 (nI (n + 1))) (q + 2) n = z1 := by simp (disch := omega) only [gI_same, gI_ne, gI_eq2, gR_sI, gL_sI, gI_sL, gR_sL, gI_sR, gL_sR]
      have e3 : gI (sI (sI (sI (sI (sI M (q + 1) n (nI k)) (q + 2) n z1) (q + 3) n z2) (q + 4) n z3) q 4 (nI (n + 1))) (q + 3) n = z2 := by simp (disch := omega) only [gI_same, gI_ne, gI_eq2, gR_sI, gL_sI, gI_sL, gR_sL, gI_sR, gL_sR]
      have e4 : gI (sI (sI (sI (sI (sI M (q + 1) n (nI k)) (q + 2) n z1) (q + 3) n z2) (q + 4) n z3) q 4 (nI (n + 1))) (q + 4) n = z3 := by simp (disch := omega) only [gI_same, gI_ne, gI_eq2, gR_sI, gL_sI, gI_sL, gR_sL, gI_sR, gL_sR]
      rw [e1, e2, e3, e4]
      exact ⟨rfl, hz⟩
    · have e : ∀ i, 1 ≤ i → i ≤ 4 → gI (sI (sI (sI (sI (sI M (q + 1) n (nI k)) (q + 2) n z1) (q + 3) n z2) (q + 4) n z3) q 4 (nI (n + 1))) (q + i) k' = gI M (q + i) k' := fun i _ _ => by
        rw [gI_ne (by omega), gI_ne (by omega), gI_ne (by omega), gI_ne (by omega), gI_ne (by omega)]
      rw [e 1 (by omega) (by omega), e 2 (by omega) (by omega), e 3 (by omega) (by omega), e 4 (by omega) (by omega), hB _ _ (by omega), hB _ _ (by omega), hB _ _ (by omega), hB _ _ (by omega), hB _ _ (by omega)]
      exact hp.2 k' (by omega)
theorem C_plputF (h : CTp M t T E a k f) (hk : k ≠ 0) (x y z w : Int32) : f_Plan_put q t x y z w M = some M := by
  have ef := C_fine h
  rw [if_neg hk] at ef
  simp (disch := omega) only [f_Plan_put, ef, bI_s, bV_s, bL_s, bR_s, bG_s, bG_n, bX_l, bX_r, ck_nI, nI_clamp, nI_leT, nI_leF, nI_ltT, nI_ltF, nI_eqF, nI_add, pk_mul, ofN, bt_e, or0, Nat.zero_add, Nat.add_zero, ↓reduceIte, if_true, if_false, Bool.false_eq_true, eq_self, li0, li1, li2, li3, li4, li5, li6, li7, li8, li9, li10, li11, li12, li14, li15, li16, li18, li19, li20, li23, li24, li25, li26, li27, li30, li31, li32, li36, li40, li41, li42, li43, li44, li45, li47, li48, li57, li59, li60, li91, li93, li96, li97, li100, li105, li122, li150, li200, li255, li400, li500, li600, li999, li1000, li1001, li2000, li2001, li2002, li2003, li2004, li2005, li2006, li32767, li100000, li_neg, li13, li17, li21, li22, li28, li29, li33, li34, li35, li37, li38, li39, li46, li49, li50, li51, li52, li53, li63, li80, li115, li160]
theorem C_sgW (ht : t < q) (hc : c < 256) (h : CTp M t T E a 0 4294967295) (hp : isPl M q n B) : ∃ M', f_Tape_needSign t (nI c) M = some M' ∧ FX (plD t q) M M' ∧ cW M' t q T E (sgW T E c a n B) := by
  unfold sgW
  by_cases c1 : sk T E a < E ∧ T (sk T E a) = c
  · rw [if_pos c1]
    obtain ⟨M1, e1, f1, g1⟩ := C_needY h c1.1 c1.2
    exact ⟨M1, e1, f1.tq, Or.inl ⟨rfl, g1, hp.td f1 ht⟩⟩
  · rw [if_neg c1]
    obtain ⟨M1, e1, f1, g1⟩ := C_needN h hc c1
    exact ⟨M1, e1, f1.tq, Or.inr ⟨by show (1 : Nat) ≠ 0; omega, _, g1⟩⟩
end
