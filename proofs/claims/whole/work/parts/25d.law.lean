/-! # functional level, 67: the class reads a law, by contracts -/
section
variable {M M' M1 M2 N : Mm} {t l E a k f n c e op : Nat} {T : Nat → Nat} {L : Nat → Nat} {F G : Mm → Option Mm} {φ K : Nat → Nat → (Nat → Nat) → Ou}
def lD (t l a j : Nat) : Prop := tD t a j ∨ (a = l ∧ j = 2) ∨ a = l + 1
/-- behind a fault -/
def cF (M : Mm) (t l : Nat) (T : Nat → Nat) (E k f : Nat) : Prop := (∃ a, CTp M t T E a k f) ∧ ∃ n, n ≤ 150 ∧ gI M l 2 = nI n
def cL (M : Mm) (t l : Nat) (T : Nat → Nat) (E : Nat) (r : Ou) : Prop := (r.1 = 0 ∧ CTp M t T E r.2.2.1 0 4294967295 ∧ isL M l r.2.2.2.1 r.2.2.2.2) ∨ (r.1 ≠ 0 ∧ cF M t l T E r.1 r.2.1)
def RC (t l : Nat) (T : Nat → Nat) (E e : Nat) (F : Mm → Option Mm) (φ : Nat → Nat → (Nat → Nat) → Ou) : Prop :=
  (∀ M a n L, CTp M t T E a 0 4294967295 → isL M l n L → n + e ≤ a → ∃ M', F M = some M' ∧ FX (lD t l) M M' ∧ cL M' t l T E (φ a n L)) ∧
  ∀ M k f, k ≠ 0 → cF M t l T E k f → ∃ M', F M = some M' ∧ FX (lD t l) M M' ∧ cF M' t l T E k f
theorem FX.tl (h : FX (tD t) M M1) : FX (lD t l) M M1 := h.mono (fun _ _ q => Or.inl q)
theorem isL.td (h : isL M l n L) (g : FX (tD t) M N) (ht : t < l) : isL N l n L := ⟨by rw [g.2.1 _ _ (by unfold tD; omega)]; exact h.1, fun k hk => by rw [g.2.1 _ _ (by unfold tD; omega)]; exact h.2 k hk⟩
theorem cF.td (h : cF M t l T E k f) (g : FX (tD t) M N) (ht : t < l) (hc : ∃ a, CTp N t T E a k f) : cF N t l T E k f := by
  obtain ⟨_, n, h1, h2⟩ := h
  exact ⟨hc, n, h1, by rw [g.2.1 _ _ (by unfold tD; omega)]; exact h2⟩
theorem RC_bind {e2 : Nat} (hF : RC t l T E e F φ) (hG : RC t l T E e2 G K) (hg : ∀ a n L, a ≤ E → n + e ≤ a → (φ a n L).1 = 0 → (φ a n L).2.2.2.1 + e2 ≤ (φ a n L).2.2.1) : RC t l T E e (fun M => bV (F M) G) (fun a n L => bO (φ a n L) K) := by
  refine ⟨fun M a n L h1 h2 h3 => ?_, fun M k f hk h1 => ?_⟩
  · obtain ⟨M1, e1, f1, r1⟩ := hF.1 M a n L h1 h2 h3
    have hg := hg a n L h1.2.2.1.1 h3
    dsimp only
    generalize φ a n L = r at r1 hg ⊢
    rcases r1 with ⟨c, g1, g2⟩ | ⟨c, g1⟩
    · obtain ⟨M2, e2, f2, r2⟩ := hG.1 M1 _ _ _ g1 g2 (hg c)
      refine ⟨M2, by rw [e1, bV_s]; exact e2, f1.trans f2, ?_⟩
      rw [bO_s c]; exact r2
    · obtain ⟨M2, e2, f2, r2⟩ := hG.2 M1 _ _ c g1
      refine ⟨M2, by rw [e1, bV_s]; exact e2, f1.trans f2, ?_⟩
      rw [bO_f c]; exact Or.inr ⟨c, r2⟩
  · obtain ⟨M1, e1, f1, r1⟩ := hF.2 M k f hk h1
    obtain ⟨M2, e2, f2, r2⟩ := hG.2 M1 k f hk r1
    exact ⟨M2, by show bV (F M) G = some M2; rw [e1, bV_s]; exact e2, f1.trans f2, r2⟩
theorem RC_sign (ht : t < l) (hE : E ≤ 150) (hc : c < 256) : RC t l T E e (f_Tape_needSign t (nI c)) (sgO T E c) := by
  refine ⟨fun M a n L h1 h2 h3 => ?_, fun M k f hk h1 => ?_⟩
  · have ha := h1.2.2.1.1
    unfold sgO
    by_cases q : sk T E a < E ∧ T (sk T E a) = c
    · rw [if_pos q]
      obtain ⟨M1, e1, f1, g1⟩ := C_needY h1 q.1 q.2
      exact ⟨M1, e1, f1.tl, Or.inl ⟨rfl, g1, h2.td f1 ht⟩⟩
    · rw [if_neg q]
      obtain ⟨M1, e1, f1, g1⟩ := C_needN h1 hc q
      exact ⟨M1, e1, f1.tl, Or.inr ⟨by show (1 : Nat) ≠ 0; omega, ⟨_, g1⟩, n, by omega, (h2.td f1 ht).1⟩⟩
  · obtain ⟨a, g⟩ := h1.1
    exact ⟨M, C_needF g hk _, FX.rf _ M, h1⟩
theorem C_putF (h : ∃ n, n ≤ 150 ∧ gI M l 2 = nI n) (x : Int32) : ∃ M', f_Law_put l x M = some M' ∧ FX (fun a j => (a = l ∧ j = 2) ∨ a = l + 1) M M' ∧ ∃ n, n ≤ 150 ∧ gI M' l 2 = nI n := by
  obtain ⟨n, hn, g⟩ := h
  have o6 : Int32.ofNat 150 = nI 150 := rfl
  by_cases c : n = 150
  · refine ⟨M, ?_, FX.rf _ M, n, hn, g⟩
    rw [c] at g
    simp (disch := omega) only [f_Law_put, o6, g, bI_s, bV_s, bL_s, bR_s, bG_s, bG_n, bX_l, bX_r, ck_nI, nI_clamp, nI_leT, nI_leF, nI_ltT, nI_ltF, nI_eqF, nI_add, pk_mul, ofN, bt_e, or0, Nat.zero_add, Nat.add_zero, ↓reduceIte, if_true, if_false, Bool.false_eq_true, eq_self, li0, li1, li2, li3, li4, li5, li6, li7, li8, li9, li10, li11, li12, li14, li15, li16, li18, li19, li20, li23, li24, li25, li26, li27, li30, li31, li32, li36, li40, li41, li42, li43, li44, li45, li47, li48, li57, li59, li60, li91, li93, li96, li97, li100, li105, li122, li150, li200, li255, li400, li500, li600, li999, li1000, li1001, li2000, li2001, li2002, li2003, li2004, li2005, li2006, li32767, li100000, li_neg, li13, li17, li21, li22, li28, li29, li33, li34, li35, li37, li38, li39, li46, li49, li50, li51, li52, li53, li63, li80, li115, li160]
  · refine ⟨sI (sI M (l + 1) n x) l 2 (nI (n + 1)), ?_, ((FX.rf _ M).sI (by omega)).sI (by omega), n + 1, by omega, gI_same ..⟩
    simp (disch := omega) only [f_Law_put, o6, g, bI_s, bV_s, bL_s, bR_s, bG_s, bG_n, bX_l, bX_r, ck_nI, nI_clamp, nI_leT, nI_leF, nI_ltT, nI_ltF, nI_eqF, nI_add, pk_mul, ofN, bt_e, or0, Nat.zero_add, Nat.add_zero, ↓reduceIte, if_true, if_false, Bool.false_eq_true, eq_self, li0, li1, li2, li3, li4, li5, li6, li7, li8, li9, li10, li11, li12, li14, li15, li16, li18, li19, li20, li23, li24, li25, li26, li27, li30, li31, li32, li36, li40, li41, li42, li43, li44, li45, li47, li48, li57, li59, li60, li91, li93, li96, li97, li100, li105, li122, li150, li200, li255, li400, li500, li600, li999, li1000, li1001, li2000, li2001, li2002, li2003, li2004, li2005, li2006, li32767, li100000, li_neg, li13, li17, li21, li22, li28, li29, li33, li34, li35, li37, li38, li39, li46, li49, li50, li51, li52, li53, li63, li80, li115, li160, gI_same, gI_ne, gI_eq2, gR_sI, gL_sI, gI_sL, gR_sL, gI_sR, gL_sR]
theorem cF.put (h : cF M t l T E k f) (ht : t + 1 < l) (x : Int32) : ∃ M', f_Law_put l x M = some M' ∧ FX (lD t l) M M' ∧ cF M' t l T E k f := by
  obtain ⟨M1, e1, f1, g1⟩ := C_putF h.2 x
  obtain ⟨a, g⟩ := h.1
  exact ⟨M1, e1, f1.mono (fun _ _ q => Or.inr q), ⟨a, g.fx f1 (fun j q => by omega) (fun j q => by omega)⟩, g1⟩
theorem C_putL (h1 : isL M l n L) (h2 : n < 150) : f_Law_put l (nI c) M = some (sI (sI M (l + 1) n (nI c)) l 2 (nI (n + 1))) ∧ isL (sI (sI M (l + 1) n (nI c)) l 2 (nI (n + 1))) l (n + 1) (upv L n c) := by
  have g := h1.1
  have o6 : Int32.ofNat 150 = nI 150 := rfl
  refine ⟨?_, gI_same .., fun k hk => ?_⟩
  · simp (disch := omega) only [f_Law_put, o6, g, bI_s, bV_s, bL_s, bR_s, bG_s, bG_n, bX_l, bX_r, ck_nI, nI_clamp, nI_leT, nI_leF, nI_ltT, nI_ltF, nI_eqF, nI_add, pk_mul, ofN, bt_e, or0, Nat.zero_add, Nat.add_zero, ↓reduceIte, if_true, if_false, Bool.false_eq_true, eq_self, li0, li1, li2, li3, li4, li5, li6, li7, li8, li9, li10, li11, li12, li14, li15, li16, li18, li19, li20, li23, li24, li25, li26, li27, li30, li31, li32, li36, li40, li41, li42, li43, li44, li45, li47, li48, li57, li59, li60, li91, li93, li96, li97, li100, li105, li122, li150, li200, li255, li400, li500, li600, li999, li1000, li1001, li2000, li2001, li2002, li2003, li2004, li2005, li2006, li32767, li100000, li_neg, li13, li17, li21, li22, li28, li29, li33, li34, li35, li37, li38, li39, li46, li49, li50, li51, li52, li53, li63, li80, li115, li160, gI_same, gI_ne, gI_eq2, gR_sI, gL_sI, gI_sL, gR_sL, gI_sR, gL_sR]
  · rw [gI_ne (by omega)]
    by_cases q : k = n
    · rw [q, gI_same, upv_s]
    · rw [gI_ne (by omega), upv_n q]; exact h1.2 k (by omega)
theorem RC_put (ht : t + 1 < l) (hE : E ≤ 150) : RC t l T E 1 (f_Law_put l (nI c)) (ptO c) := by
  refine ⟨fun M a n L h1 h2 h3 => ?_, fun M k f hk h1 => h1.put ht _⟩
  have ha := h1.2.2.1.1
  obtain ⟨e1, g1⟩ := C_putL (c := c) h2 (by omega)
  have f1 : FX (fun a j => (a = l ∧ j = 2) ∨ a = l + 1) M (sI (sI M (l + 1) n (nI c)) l 2 (nI (n + 1))) := ((FX.rf _ M).sI (by omega)).sI (by omega)
  exact ⟨_, e1, f1.mono (fun _ _ q => Or.inr q), Or.inl ⟨rfl, h1.fx f1 (fun j q => by omega) (fun j q => by omega), g1⟩⟩
/-- a loop of operations -/
theorem C_loop (ht : t + 1 < l) (hE : E ≤ 150) {ψ : Nat → Nat} {H : Nat → Int32 → Mm → Option Mm} (hF : RC t l T E 0 F K) (hK : ∀ a n L, a ≤ E → gO E 1 1 a n L (K a n L))
    (hs : ∀ w x M a, CTp M t T E a 0 4294967295 → x < 150 → ∃ M', FX (tD t) M M' ∧ ((opA T E ψ a = 0 ∧ H (w + 1) (nI x) M = some M' ∧ CTp M' t T E (sk T E a) 0 4294967295) ∨ (opA T E ψ a ≠ 0 ∧ H (w + 1) (nI x) M = bV (F M') (fun M1 => bV (f_Law_put l (nI (opA T E ψ a)) M1) (fun M3 => H w (nI (x + 1)) M3)) ∧ CTp M' t T E (sk T E a + 1) 0 4294967295)))
    (hf : ∀ w x M a k f, k ≠ 0 → CTp M t T E a k f → H (w + 1) x M = some M) :
    ∀ (u a n : Nat) (L : Nat → Nat) (w x : Nat) (M : Mm), CTp M t T E a 0 4294967295 → isL M l n L → n ≤ a → 2 * x ≤ a → E - a < u → u < w → ∃ M', H w (nI x) M = some M' ∧ FX (lD t l) M M' ∧ cL M' t l T E (lpO T E ψ K u a n L) := by
  intro u
  induction u with
  | zero => intro a n L w x M _ _ _ _ h _; omega
  | succ u ih =>
    intro a n L w x M h1 h2 h3 h4 hu hw
    obtain ⟨w, rfl⟩ : ∃ v, w = v + 2 := ⟨w - 2, by omega⟩
    have ha := h1.2.2.1.1
    have hsk := sk_b (T := T) ha
    obtain ⟨M1, f1, hc⟩ := hs (w + 1) x M a h1 (by omega)
    unfold lpO
    rcases hc with ⟨c, e1, g1⟩ | ⟨c, e1, g1⟩
    · rw [if_pos c]
      exact ⟨M1, e1, f1.tl, Or.inl ⟨rfl, g1, h2.td f1 (by omega)⟩⟩
    · rw [if_neg c]
      have lt := opA_lt c
      obtain ⟨M2, e2, f2, r2⟩ := hF.1 M1 _ n L g1 (h2.td f1 (by omega)) (by omega)
      have gk := hK (sk T E a + 1) n L (by omega)
      generalize K (sk T E a + 1) n L = r at r2 gk ⊢
      rcases r2 with ⟨c2, g2, g3⟩ | ⟨c2, g2⟩
      · obtain ⟨⟨x1, x2, x3⟩, _⟩ := gk c2
        obtain ⟨e3, g4⟩ := C_putL (c := opA T E ψ a) g3 (by omega)
        have f3 : FX (fun a j => (a = l ∧ j = 2) ∨ a = l + 1) M2 (sI (sI M2 (l + 1) r.2.2.2.1 (nI (opA T E ψ a))) l 2 (nI (r.2.2.2.1 + 1))) := ((FX.rf _ M2).sI (by omega)).sI (by omega)
        obtain ⟨M4, e4, f4, r4⟩ := ih _ _ _ (w + 1) (x + 1) _ (g2.fx f3 (fun j q => by omega) (fun j q => by omega)) g4 (by omega) (by omega) (by omega) (by omega)
        refine ⟨M4, ?_, ((f1.tl.trans f2).trans (f3.mono (fun _ _ q => Or.inr q))).trans f4, ?_⟩
        · rw [e1, e2, bV_s, e3, bV_s]; exact e4
        · rw [bO_s c2]; exact r4
      · obtain ⟨M3, e3, f3, g4⟩ := g2.put ht (nI (opA T E ψ a))
        obtain ⟨a', g5⟩ := g4.1
        refine ⟨M3, ?_, (f1.tl.trans f2).trans f3, ?_⟩
        · rw [e1, e2, bV_s, e3, bV_s]; exact hf w _ M3 a' _ _ c2 g5
        · rw [bO_f c2]; exact Or.inr ⟨c2, g4⟩
end
