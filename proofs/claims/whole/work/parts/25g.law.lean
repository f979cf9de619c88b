/-! # functional level, 70: the model reads a law, by contracts -/
section
variable {M M' M1 M2 N : Mm} {m E a k f n c e p q s op x y : Nat} {T : Nat → Nat} {L : Nat → Nat} {F G : Mm → Option Mm} {φ K : Nat → Nat → (Nat → Nat) → Ou}
def kD (m a j : Nat) : Prop := uD m a j ∨ (a = m ∧ (j = 8 ∨ j = 24)) ∨ (m + 205 ≤ a ∧ a < m + 365)
def isKr (M : Mm) (m n : Nat) (L : Nat → Nat) : Prop := gI M m 24 = nI n ∧ ∀ k, k < n → gI M (m + 204 + 1 + k) 0 = nI (lk (L k)) ∧ gI M (m + 204 + 1 + k) 1 = nI (lv (L k))
def mL (M : Mm) (m : Nat) (T : Nat → Nat) (E op : Nat) (r : Ou) : Prop := (r.1 = 0 ∧ MTp M m T E r.2.2.1 0 4294967295 ∧ isKr M m r.2.2.2.1 r.2.2.2.2 ∧ gI M m 8 = nI op) ∨ (r.1 ≠ 0 ∧ ∃ a', MTp M m T E a' r.1 r.2.1)
def RM (m : Nat) (T : Nat → Nat) (E p q : Nat) (F : Mm → Option Mm) (φ : Nat → Nat → (Nat → Nat) → Ou) : Prop :=
  (∀ M a n L, MTp M m T E a 0 4294967295 → isKr M m n L → gI M m 8 = nI p → n ≤ a → ∃ M', F M = some M' ∧ FX (kD m) M M' ∧ mL M' m T E q (φ a n L)) ∧
  ∀ M a k f, k ≠ 0 → MTp M m T E a k f → ∃ M', F M = some M' ∧ FX (kD m) M M' ∧ MTp M' m T E a k f
theorem FX.ku (h : FX (uD m) M M1) : FX (kD m) M M1 := h.mono (fun _ _ q => Or.inl q)
theorem isKr.ud (h : isKr M m n L) (g : FX (uD m) M N) : isKr N m n L := ⟨by rw [g.2.1 _ _ (by unfold uD; omega)]; exact h.1, fun k hk => by rw [g.2.1 _ _ (by unfold uD; omega), g.2.1 _ _ (by unfold uD; omega)]; exact h.2 k hk⟩
theorem op_ud (h : gI M m 8 = nI p) (g : FX (uD m) M N) : gI N m 8 = nI p := by rw [g.2.1 _ _ (by unfold uD; omega)]; exact h
theorem RM_bind (hF : RM m T E p q F φ) (hG : RM m T E q s G K) (hg : ∀ a n L, a ≤ E → n ≤ a → (φ a n L).1 = 0 → (φ a n L).2.2.2.1 ≤ (φ a n L).2.2.1) : RM m T E p s (fun M => bV (F M) G) (fun a n L => bO (φ a n L) K) := by
  refine ⟨fun M a n L h1 h2 h3 h4 => ?_, fun M a k f hk h1 => ?_⟩
  · obtain ⟨M1, e1, f1, r1⟩ := hF.1 M a n L h1 h2 h3 h4
    have hg := hg a n L h1.2.2.1.1 h4
    dsimp only
    generalize φ a n L = r at r1 hg ⊢
    rcases r1 with ⟨c, g1, g2, g3⟩ | ⟨c, a', g1⟩
    · obtain ⟨M2, e2, f2, r2⟩ := hG.1 M1 _ _ _ g1 g2 g3 (hg c)
      refine ⟨M2, by rw [e1, bV_s]; exact e2, f1.trans f2, ?_⟩
      rw [bO_s c]; exact r2
    · obtain ⟨M2, e2, f2, r2⟩ := hG.2 M1 _ _ _ c g1
      refine ⟨M2, by rw [e1, bV_s]; exact e2, f1.trans f2, ?_⟩
      rw [bO_f c]; exact Or.inr ⟨c, _, r2⟩
  · obtain ⟨M1, e1, f1, r1⟩ := hF.2 M a k f hk h1
    obtain ⟨M2, e2, f2, r2⟩ := hG.2 M1 a k f hk r1
    exact ⟨M2, by show bV (F M) G = some M2; rw [e1, bV_s]; exact e2, f1.trans f2, r2⟩
theorem RM_sign (hc : c < 256) : RM m T E p p (f_M_sign m (nI c)) (sgO T E c) := by
  refine ⟨fun M a n L h1 h2 h3 h4 => ?_, fun M a k f hk h1 => ⟨M, M_signF h1 hk _, FX.rf _ M, h1⟩⟩
  unfold sgO
  by_cases q : sk T E a < E ∧ T (sk T E a) = c
  · rw [if_pos q]
    obtain ⟨M1, e1, f1, g1⟩ := M_signY h1 q.1 q.2
    exact ⟨M1, e1, f1.ku, Or.inl ⟨rfl, g1, h2.ud f1, op_ud h3 f1⟩⟩
  · rw [if_neg q]
    obtain ⟨M1, e1, f1, g1⟩ := M_signN h1 hc q
    exact ⟨M1, e1, f1.ku, Or.inr ⟨by show (1 : Nat) ≠ 0; omega, _, g1⟩⟩
theorem M_notes (h1 : MTp M m T E a 0 f) (h2 : isKr M m n L) (hn : n < 160) (hx : x = lk c) (hy : y = lv c) : ∃ M', f_M_notes m (nI x) (nI y) M = some M' ∧ FX (kD m) M M' ∧ MTp M' m T E a 0 f ∧ isKr M' m (n + 1) (upv L n c) ∧ gI M' m 8 = gI M m 8 := by
  have g5 := h1.1.2.2.1
  have g := h2.1
  have f1 : FX (fun a j => m + 205 ≤ a ∧ a < m + 365) M (sI (sI M (m + 204 + 1 + n) 0 (nI x)) (m + 204 + 1 + n) 1 (nI y)) := ((FX.rf _ M).sI (by omega)).sI (by omega)
  refine ⟨sI (sI (sI M (m + 204 + 1 + n) 0 (nI x)) (m + 204 + 1 + n) 1 (nI y)) m 24 (nI (n + 1)), ?_, (f1.mono (fun _ _ q => Or.inr (Or.inr q))).sI (Or.inr (Or.inl ⟨rfl, Or.inr rfl⟩)), (h1.fx f1 (fun j q => by omega) (fun j q => by omega)).s7 (by omega) _, ⟨gI_same .., fun k hk => ?_⟩, ?_⟩
  · simp (disch := omega) only [f_M_notes, g5, g, bI_s, bV_s, bL_s, bR_s, bG_s, bG_n, bX_l, bX_r, ck_nI, nI_clamp, nI_leT, nI_leF, nI_ltT, nI_ltF, nI_eqF, nI_add, pk_mul, ofN, bt_e, or0, Nat.zero_add, Nat.add_zero, ↓reduceIte, if_true, if_false, Bool.false_eq_true, eq_self, li0, li1, li2, li3, li4, li5, li6, li7, li8, li9, li10, li11, li12, li14, li15, li16, li18, li19, li20, li23, li24, li25, li26, li27, li30, li31, li32, li36, li40, li41, li42, li43, li44, li45, li47, li48, li57, li59, li60, li91, li93, li96, li97, li100, li105, li122, li150, li200, li255, li400, li500, li600, li999, li1000, li1001, li2000, li2001, li2002, li2003, li2004, li2005, li2006, li32767, li100000, li_neg, li13, li17, li21, li22, li28, li29, li33, li34, li35, li37, li38, li39, li46, li49, li50, li51, li52, li53, li63, li80, li115, li160, gI_same, gI_ne, gI_eq2, gR_sI, gL_sI, gI_sL, gR_sL, gI_sR, gL_sR]
  · by_cases q : k = n
    · rw [q, upv_s, gI_ne (by omega), gI_ne (by omega), gI_same, gI_ne (by omega), gI_same, hx, hy]; exact ⟨rfl, rfl⟩
    · rw [upv_n q, gI_ne (by omega), gI_ne (by omega), gI_ne (by omega), gI_ne (by omega), gI_ne (by omega), gI_ne (by omega)]; exact h2.2 k (by omega)
  · rw [gI_ne (by omega), gI_ne (by omega), gI_ne (by omega)]
theorem M_notesF (h : MTp M m T E a k f) (hk : k ≠ 0) (x y : Int32) : f_M_notes m x y M = some M := by
  have hE := h.2.2.1
  have e := h.1.2.2.1
  simp (disch := omega) only [f_M_notes, e, bI_s, bV_s, bL_s, bR_s, bG_s, bG_n, bX_l, bX_r, ck_nI, nI_clamp, nI_leT, nI_leF, nI_ltT, nI_ltF, nI_eqF, nI_add, pk_mul, ofN, bt_e, or0, Nat.zero_add, Nat.add_zero, ↓reduceIte, if_true, if_false, Bool.false_eq_true, eq_self, li0, li1, li2, li3, li4, li5, li6, li7, li8, li9, li10, li11, li12, li14, li15, li16, li18, li19, li20, li23, li24, li25, li26, li27, li30, li31, li32, li36, li40, li41, li42, li43, li44, li45, li47, li48, li57, li59, li60, li91, li93, li96, li97, li100, li105, li122, li150, li200, li255, li400, li500, li600, li999, li1000, li1001, li2000, li2001, li2002, li2003, li2004, li2005, li2006, li32767, li100000, li_neg, li13, li17, li21, li22, li28, li29, li33, li34, li35, li37, li38, li39, li46, li49, li50, li51, li52, li53, li63, li80, li115, li160]
theorem nI_prd (op : Nat) : nI (op + 1) - nI 1 = nI op := by rw [pk_sub (by omega)]; rfl
/-- a bracket closed -/
theorem RM_put2 (hE : E ≤ 150) (hx : x = lk c) (hc : 2000 ≤ c) : RM m T E (op + 1) op (fun M34 => bV (f_M_notes m (nI x) (nI 0) M34) (fun M36 => some (sI M36 m 8 (gI M36 m 8 - nI 1)))) (ptO c) := by
  refine ⟨fun M a n L h1 h2 h3 h4 => ?_, fun M a k f hk h1 => ?_⟩
  · have ha := h1.2.2.1.1
    obtain ⟨M1, e1, f1, g1, g2, g3⟩ := M_notes (c := c) (y := 0) h1 h2 (by omega) hx (by unfold lv; rw [if_neg (by omega), if_neg (by omega)])
    rw [h3] at g3
    refine ⟨sI M1 m 8 (nI op), ?_, f1.sI (Or.inr (Or.inl ⟨rfl, Or.inl rfl⟩)), Or.inl ⟨rfl, g1.s7 (by omega) _, ⟨?_, fun k hk => ?_⟩, gI_same ..⟩⟩
    · dsimp only; rw [e1, bV_s, g3, nI_prd]
    · rw [gI_ne (by omega)]; exact g2.1
    · rw [gI_ne (by omega), gI_ne (by omega)]; exact g2.2 k hk
  · refine ⟨sI M m 8 (gI M m 8 - nI 1), ?_, (FX.rf _ M).sI (Or.inr (Or.inl ⟨rfl, Or.inl rfl⟩)), h1.s7 (by omega) _⟩
    dsimp only; rw [M_notesF h1 hk, bV_s]
theorem RM_sg2 (hc : c < 256) : RM m T E (op + 1) op (fun M17 => bV (f_M_sign m (nI c) M17) (fun M19 => some (sI M19 m 8 (gI M19 m 8 - nI 1)))) (sgO T E c) := by
  refine ⟨fun M a n L h1 h2 h3 h4 => ?_, fun M a k f hk h1 => ?_⟩
  · obtain ⟨M1, e1, f1, r1⟩ := (RM_sign (m := m) (T := T) (E := E) (p := op + 1) hc).1 M a n L h1 h2 h3 h4
    refine ⟨sI M1 m 8 (gI M1 m 8 - nI 1), ?_, f1.sI (Or.inr (Or.inl ⟨rfl, Or.inl rfl⟩)), ?_⟩
    · dsimp only; rw [e1, bV_s]
    · rcases r1 with ⟨c, g1, g2, g3⟩ | ⟨c, a', g1⟩
      · refine Or.inl ⟨c, g1.s7 (by omega) _, ⟨?_, fun k hk => ?_⟩, by rw [gI_same, g3, nI_prd]⟩
        · rw [gI_ne (by omega)]; exact g2.1
        · rw [gI_ne (by omega), gI_ne (by omega)]; exact g2.2 k hk
      · exact Or.inr ⟨c, a', g1.s7 (by omega) _⟩
  · refine ⟨sI M m 8 (gI M m 8 - nI 1), ?_, (FX.rf _ M).sI (Or.inr (Or.inl ⟨rfl, Or.inl rfl⟩)), h1.s7 (by omega) _⟩
    dsimp only; rw [M_signF h1 hk, bV_s]
/-- a loop of operations -/
theorem M_loop (hE : E ≤ 150) {ψ : Nat → Nat} {H : Nat → Mm → Option Mm} (hF : RM m T E op op F K) (hK : ∀ a n L, a ≤ E → gO E 1 1 a n L (K a n L)) (hψ : ∀ x, ψ x ≠ 0 → 2000 ≤ ψ x ∧ ψ x ≤ 2006)
    (hs : ∀ w M a, MTp M m T E a 0 4294967295 → ∃ M', FX (uD m) M M' ∧ ((opA T E ψ a = 0 ∧ H (w + 1) M = some M' ∧ MTp M' m T E (sk T E a) 0 4294967295) ∨ (opA T E ψ a ≠ 0 ∧ H (w + 1) M = bV (F M') (fun M1 => bV (f_M_notes m (nI (lk (opA T E ψ a))) (nI 0) M1) (fun M3 => H w M3)) ∧ MTp M' m T E (sk T E a + 1) 0 4294967295)))
    (hf : ∀ w M a k f, k ≠ 0 → MTp M m T E a k f → H (w + 1) M = some M) :
    ∀ (u a n : Nat) (L : Nat → Nat) (w : Nat) (M : Mm), MTp M m T E a 0 4294967295 → isKr M m n L → gI M m 8 = nI op → n ≤ a → E - a < u → u < w → ∃ M', H w M = some M' ∧ FX (kD m) M M' ∧ mL M' m T E op (lpO T E ψ K u a n L) := by
  intro u
  induction u with
  | zero => intro a n L w M _ _ _ _ h _; omega
  | succ u ih =>
    intro a n L w M h1 h2 h3 h4 hu hw
    obtain ⟨w, rfl⟩ : ∃ v, w = v + 2 := ⟨w - 2, by omega⟩
    have ha := h1.2.2.1.1
    have hsk := sk_b (T := T) ha
    obtain ⟨M1, f1, hc⟩ := hs (w + 1) M a h1
    unfold lpO
    rcases hc with ⟨c, e1, g1⟩ | ⟨c, e1, g1⟩
    · rw [if_pos c]
      exact ⟨M1, e1, f1.ku, Or.inl ⟨rfl, g1, h2.ud f1, op_ud h3 f1⟩⟩
    · rw [if_neg c]
      have lt := opA_lt c
      have hψ2 : 2000 ≤ opA T E ψ a := by
        have : opA T E ψ a = ψ (T (sk T E a)) := if_pos lt
        rw [this] at c ⊢
        exact (hψ _ c).1
      obtain ⟨M2, e2, f2, r2⟩ := hF.1 M1 _ n L g1 (h2.ud f1) (op_ud h3 f1) (by omega)
      have gk := hK (sk T E a + 1) n L (by omega)
      generalize K (sk T E a + 1) n L = r at r2 gk ⊢
      rcases r2 with ⟨c2, g2, g3, g4⟩ | ⟨c2, a', g2⟩
      · obtain ⟨⟨x1, x2, x3⟩, _⟩ := gk c2
        obtain ⟨M3, e3, f3, g5, g6, g7⟩ := M_notes (c := opA T E ψ a) (y := 0) g2 g3 (by omega) rfl (by unfold lv; rw [if_neg (by omega), if_neg (by omega)])
        obtain ⟨M4, e4, f4, r4⟩ := ih _ _ _ (w + 1) _ g5 g6 (g7.trans g4) (by omega) (by omega) (by omega)
        refine ⟨M4, ?_, ((f1.ku.trans f2).trans f3).trans f4, ?_⟩
        · rw [e1, e2, bV_s, e3, bV_s]; exact e4
        · rw [bO_s c2]; exact r4
      · refine ⟨M2, ?_, f1.ku.trans f2, ?_⟩
        · rw [e1, e2, bV_s, M_notesF g2 c2, bV_s]; exact hf w M2 a' _ _ c2 g2
        · rw [bO_f c2]; exact Or.inr ⟨c2, a', g2⟩
end
