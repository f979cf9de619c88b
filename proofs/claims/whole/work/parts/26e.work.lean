/-! # functional level, 78: the class reads a work -/
section
variable {M M' M1 M2 N : Mm} {t q p E a k f n c op : Nat} {T : Nat → Nat} {B P : TT} {ρ : Nat → Nat → Nat → Int32 → Mm → Option Mm} {φ : Nat → Nat → TT → Ov}
theorem C_wexit (h : CTp M t T E a k f) (hk : k ≠ 0) (x y : Int32) (w : Nat) : f_Plan_readSteps_b ρ (w + 1) q t p y x M = some M := by
  have ef := C_fine h
  rw [if_neg hk] at ef
  unfold f_Plan_readSteps_b
  by_cases c : (150 : Int32) ≤ x
  · rw [if_pos c]
  · rw [if_neg c, ef, bI_s, if_pos (show nI 0 = 0 from rfl)]
theorem C_inner (ht : t + 1 < q) (hq : q + 5 ≤ p) (hE : E ≤ 150) (ho : 1 ≤ op) (ho6 : op ≤ 6) (hS : SC t q p P T E (fun M => bV (f_Plan_readStep ρ q t p (nI op) M) (fun M1 => f_Tape_needSign t (nI 59) M1)) φ) (hg : ∀ a n B, a ≤ E → gW P E op a n B (φ a n B)) (hk : ∀ a n B, a ≤ E → φ (sk T E a) n B = φ a n B) : ∀ (u a n : Nat) (B : TT) (w x : Nat) (M : Mm), CTp M t T E a 0 4294967295 → isPl M q n B → isP M p P → 6 * n ≤ a → 6 * x ≤ a → E - a < u → u < w → ∃ M', f_Plan_readSteps_b ρ w q t p (nI op) (nI x) M = some M' ∧ FX (plD t q) M M' ∧ cW M' t q T E (wI φ T E u a n B) := by
  intro u
  induction u with
  | zero => intro a n B w x M _ _ _ _ _ h _; omega
  | succ u ih =>
    intro a n B w x M h1 h2 h3 h4 h5 hu hw
    obtain ⟨w, rfl⟩ : ∃ v, w = v + 2 := ⟨w - 2, by omega⟩
    have ha := h1.2.2.1.1
    have hi := sk_i (T := T) ha
    have hs := sk_b (T := T) ha
    have ef := C_fine h1
    rw [if_pos rfl] at ef
    have l150 : (150 : Int32) = nI 150 := rfl
    have o0 : op ≠ 0 := by omega
    unfold wI
    by_cases c : sk T E a < E ∧ T (sk T E a) = 93
    · rw [if_pos c]
      obtain ⟨M1, e1, f1, g1⟩ := C_takeY h1 c.1 c.2
      refine ⟨M1, ?_, f1.tq, Or.inl ⟨rfl, g1, h2.td f1 (by omega)⟩⟩
      conv => lhs; unfold f_Plan_readSteps_b
      simp (disch := omega) only [f_Plan_readSteps_c, l150, ef, nI_eqF o0, e1, bI_s, bV_s, bL_s, bR_s, bG_s, bG_n, bX_l, bX_r, ck_nI, nI_clamp, nI_leT, nI_leF, nI_ltT, nI_ltF, nI_eqF, nI_add, pk_mul, ofN, bt_e, or0, Nat.zero_add, Nat.add_zero, ↓reduceIte, if_true, if_false, Bool.false_eq_true, eq_self, li0, li1, li2, li3, li4, li5, li6, li7, li8, li9, li10, li11, li12, li14, li15, li16, li18, li19, li20, li23, li24, li25, li26, li27, li30, li31, li32, li36, li40, li41, li42, li43, li44, li45, li47, li48, li57, li59, li60, li91, li93, li96, li97, li100, li105, li122, li150, li200, li255, li400, li500, li600, li999, li1000, li1001, li2000, li2001, li2002, li2003, li2004, li2005, li2006, li32767, li100000, li_neg, li13, li17, li21, li22, li28, li29, li33, li34, li35, li37, li38, li39, li46, li49, li50, li51, li52, li53, li63, li80, li115, li160]
    · rw [if_neg c]
      obtain ⟨M1, e1, f1, g1⟩ := C_takeN h1 (by omega) c
      obtain ⟨M2, e2, f2, r2⟩ := hS.1 M1 _ n B g1 (h2.td f1 (by omega)) (h3.td f1 (by omega)) (by omega)
      dsimp only at e2
      have eb : f_Plan_readSteps_b ρ (w + 2) q t p (nI op) (nI x) M = f_Plan_readSteps_b ρ (w + 1) q t p (nI op) (nI (x + 1)) M2 := by
        obtain ⟨M3, e3⟩ : ∃ M3, f_Plan_readStep ρ q t p (nI op) M1 = some M3 := by
          cases z : f_Plan_readStep ρ q t p (nI op) M1 with
          | none => rw [z] at e2; exact absurd e2 (by intro h; cases h)
          | some M3 => exact ⟨M3, rfl⟩
        rw [e3, bV_s] at e2
        conv => lhs; unfold f_Plan_readSteps_b
        simp (disch := omega) only [f_Plan_readSteps_c, l150, ef, nI_eqF o0, e1, e3, e2, bI_s, bV_s, bL_s, bR_s, bG_s, bG_n, bX_l, bX_r, ck_nI, nI_clamp, nI_leT, nI_leF, nI_ltT, nI_ltF, nI_eqF, nI_add, pk_mul, ofN, bt_e, or0, Nat.zero_add, Nat.add_zero, ↓reduceIte, if_true, if_false, Bool.false_eq_true, eq_self, li0, li1, li2, li3, li4, li5, li6, li7, li8, li9, li10, li11, li12, li14, li15, li16, li18, li19, li20, li23, li24, li25, li26, li27, li30, li31, li32, li36, li40, li41, li42, li43, li44, li45, li47, li48, li57, li59, li60, li91, li93, li96, li97, li100, li105, li122, li150, li200, li255, li400, li500, li600, li999, li1000, li1001, li2000, li2001, li2002, li2003, li2004, li2005, li2006, li32767, li100000, li_neg, li13, li17, li21, li22, li28, li29, li33, li34, li35, li37, li38, li39, li46, li49, li50, li51, li52, li53, li63, li80, li115, li160]
      rw [hk a n B ha] at r2
      have gk := hg a n B ha
      rw [eb]
      generalize φ a n B = r at r2 gk ⊢
      rcases r2 with ⟨c2, g2, L2⟩ | ⟨c2, a', g2⟩
      · rw [bW_s c2]
        obtain ⟨⟨x1, x2, x3⟩, _⟩ := gk c2
        obtain ⟨M4, e4, f4, r4⟩ := ih _ _ _ (w + 1) (x + 1) M2 g2 L2 (h3.pl (f1.tq.trans f2) (by omega) hq) (by omega) (by omega) (by omega) (by omega)
        exact ⟨M4, e4, (f1.tq.trans f2).trans f4, r4⟩
      · rw [bW_f c2]
        exact ⟨M2, C_wexit g2 c2 _ _ w, f1.tq.trans f2, Or.inr ⟨c2, a', g2⟩⟩
theorem C_top (ht : t + 1 < q) (hq : q + 5 ≤ p) (hE : E ≤ 150) (hS : SC t q p P T E (fun M => bV (f_Plan_readStep ρ q t p (nI 0) M) (fun M1 => f_Tape_needSign t (nI 59) M1)) φ) (hg : ∀ a n B, a ≤ E → gW P E 0 a n B (φ a n B)) (hk : ∀ a n B, a ≤ E → φ (sk T E a) n B = φ a n B) : ∀ (u a n : Nat) (B : TT) (w x : Nat) (M : Mm), CTp M t T E a 0 4294967295 → isPl M q n B → isP M p P → 6 * n ≤ a → 6 * x ≤ a → E - a < u → u < w → ∃ M', f_Plan_readSteps_b ρ w q t p (nI 0) (nI x) M = some M' ∧ FX (plD t q) M M' ∧ cW M' t q T E (wTp φ T E u a n B) := by
  intro u
  induction u with
  | zero => intro a n B w x M _ _ _ _ _ h _; omega
  | succ u ih =>
    intro a n B w x M h1 h2 h3 h4 h5 hu hw
    obtain ⟨w, rfl⟩ : ∃ v, w = v + 2 := ⟨w - 2, by omega⟩
    have ha := h1.2.2.1.1
    have hs := sk_b (T := T) ha
    have ef := C_fine h1
    rw [if_pos rfl] at ef
    have l150 : (150 : Int32) = nI 150 := rfl
    obtain ⟨M1, e1, f1, g1⟩ := C_more h1
    unfold wTp
    by_cases c : E ≤ sk T E a
    · rw [if_pos c]
      rw [if_neg (by omega)] at e1
      refine ⟨M1, ?_, f1.tq, Or.inl ⟨rfl, g1, h2.td f1 (by omega)⟩⟩
      conv => lhs; unfold f_Plan_readSteps_b
      simp (disch := omega) only [f_Plan_readSteps_c, l150, ef, e1, bI_s, bV_s, bL_s, bR_s, bG_s, bG_n, bX_l, bX_r, ck_nI, nI_clamp, nI_leT, nI_leF, nI_ltT, nI_ltF, nI_eqF, nI_add, pk_mul, ofN, bt_e, or0, Nat.zero_add, Nat.add_zero, ↓reduceIte, if_true, if_false, Bool.false_eq_true, eq_self, li0, li1, li2, li3, li4, li5, li6, li7, li8, li9, li10, li11, li12, li14, li15, li16, li18, li19, li20, li23, li24, li25, li26, li27, li30, li31, li32, li36, li40, li41, li42, li43, li44, li45, li47, li48, li57, li59, li60, li91, li93, li96, li97, li100, li105, li122, li150, li200, li255, li400, li500, li600, li999, li1000, li1001, li2000, li2001, li2002, li2003, li2004, li2005, li2006, li32767, li100000, li_neg, li13, li17, li21, li22, li28, li29, li33, li34, li35, li37, li38, li39, li46, li49, li50, li51, li52, li53, li63, li80, li115, li160]
    · rw [if_neg c]
      rw [if_pos (by omega)] at e1
      obtain ⟨M2, e2, f2, r2⟩ := hS.1 M1 _ n B g1 (h2.td f1 (by omega)) (h3.td f1 (by omega)) (by omega)
      dsimp only at e2
      have eb : f_Plan_readSteps_b ρ (w + 2) q t p (nI 0) (nI x) M = f_Plan_readSteps_b ρ (w + 1) q t p (nI 0) (nI (x + 1)) M2 := by
        obtain ⟨M3, e3⟩ : ∃ M3, f_Plan_readStep ρ q t p (nI 0) M1 = some M3 := by
          cases z : f_Plan_readStep ρ q t p (nI 0) M1 with
          | none => rw [z] at e2; exact absurd e2 (by intro h; cases h)
          | some M3 => exact ⟨M3, rfl⟩
        rw [e3, bV_s] at e2
        conv => lhs; unfold f_Plan_readSteps_b
        simp (disch := omega) only [f_Plan_readSteps_c, l150, ef, e1, e3, e2, bI_s, bV_s, bL_s, bR_s, bG_s, bG_n, bX_l, bX_r, ck_nI, nI_clamp, nI_leT, nI_leF, nI_ltT, nI_ltF, nI_eqF, nI_add, pk_mul, ofN, bt_e, or0, Nat.zero_add, Nat.add_zero, ↓reduceIte, if_true, if_false, Bool.false_eq_true, eq_self, li0, li1, li2, li3, li4, li5, li6, li7, li8, li9, li10, li11, li12, li14, li15, li16, li18, li19, li20, li23, li24, li25, li26, li27, li30, li31, li32, li36, li40, li41, li42, li43, li44, li45, li47, li48, li57, li59, li60, li91, li93, li96, li97, li100, li105, li122, li150, li200, li255, li400, li500, li600, li999, li1000, li1001, li2000, li2001, li2002, li2003, li2004, li2005, li2006, li32767, li100000, li_neg, li13, li17, li21, li22, li28, li29, li33, li34, li35, li37, li38, li39, li46, li49, li50, li51, li52, li53, li63, li80, li115, li160]
      rw [hk a n B ha] at r2
      have gk := hg a n B ha
      rw [eb]
      generalize φ a n B = r at r2 gk ⊢
      rcases r2 with ⟨c2, g2, L2⟩ | ⟨c2, a', g2⟩
      · rw [bW_s c2]
        obtain ⟨⟨x1, x2, x3⟩, _⟩ := gk c2
        obtain ⟨M4, e4, f4, r4⟩ := ih _ _ _ (w + 1) (x + 1) M2 g2 L2 (h3.pl (f1.tq.trans f2) (by omega) hq) (by omega) (by omega) (by omega) (by omega)
        exact ⟨M4, e4, (f1.tq.trans f2).trans f4, r4⟩
      · rw [bW_f c2]
        exact ⟨M2, C_wexit g2 c2 _ _ w, f1.tq.trans f2, Or.inr ⟨c2, a', g2⟩⟩
theorem wT_sk (h : a ≤ E) : ∀ k, wT P T E k op (sk T E a) n B = wT P T E k op a n B
  | 0 => rfl
  | k + 1 => by
    show wT0 _ P T E op (sk T E a) n B = wT0 _ P T E op a n B
    unfold wT0
    rw [cR_sk h, sk_i h]
theorem SC_steps (ht : t + 1 < q) (hq : q + 5 ≤ p) (hE : E ≤ 150) (hT : ∀ i, i < E → T i < 256) (oP : okP P) : ∀ k op, 1 ≤ op → op ≤ 6 → 7 ≤ k + op → SC t q p P T E (f_Plan_readSteps k q t p (nI op)) (wI (wT P T E k op) T E (E + 1))
  | 0, op => fun _ h1 h2 => by omega
  | k + 1, op => fun h0 h1 h2 => by
    have hS := SC_step (op := op) (ρ := f_Plan_readSteps k) (ρ' := wI (wT P T E k (op + 1)) T E (E + 1)) ht hq hE oP h1 (fun z => SC_steps ht hq hE hT oP k (op + 1) (by omega) (by omega) (by omega)) (fun _ a n B ha => wI_g (wT_g hT oP k (op + 1)) _ _ _ _ ha)
    refine ⟨fun M a n B g1 g2 g3 g4 => ?_, fun M a k' f hk g1 => ⟨M, a, (by show f_Plan_readSteps_b (f_Plan_readSteps k) FU q t p (nI op) (nI 0) M = some M; exact C_wexit g1 hk _ _ 9999), FX.rf _ M, g1⟩⟩
    exact C_inner ht hq hE h0 h1 hS (wT_g hT oP (k + 1) op) (fun a n B ha => wT_sk ha (k + 1)) (E + 1) a n B FU 0 M g1 g2 g3 g4 (by omega) (by omega) (FU_lt (by omega))
/-- a work's whole text -/
def wkz (P : TT) (T : Nat → Nat) (E : Nat) : Ov := wTp (wT P T E 8 0) T E (E + 1) 0 0 (fun _ _ => 0)
theorem C_wread (ht : t + 1 < q) (hq : q + 5 ≤ p) (hE : E ≤ 150) (oP : okP P) (h : CTp M t T E 0 0 4294967295) (hP : isP M p P) : ∃ M', f_Plan_read q t p M = some M' ∧ FX (plD t q) M M' ∧ cW M' t q T E (wkz P T E) := by
  have hT := h.2.2.2
  have hS := SC_step (op := 0) (ρ := f_Plan_readSteps 7) (ρ' := wI (wT P T E 7 1) T E (E + 1)) ht hq hE oP (by omega) (fun z => SC_steps ht hq hE hT oP 7 1 (by omega) (by omega) (by omega)) (fun _ a n B ha => wI_g (wT_g hT oP 7 1) _ _ _ _ ha)
  have f0 : FX (plD t q) M (sI M q 4 (nI 0)) := (FX.rf _ M).sI (Or.inr (Or.inl ⟨rfl, rfl⟩))
  have h0 : CTp (sI M q 4 (nI 0)) t T E 0 0 4294967295 := h.fx ((FX.rf (fun a j => a = q) M).sI rfl) (fun j z => by omega) (fun j z => by omega)
  obtain ⟨M1, e1, f1, r1⟩ := C_top ht hq hE hS (wT_g hT oP 8 0) (fun a n B ha => wT_sk ha 8) (E + 1) 0 0 (fun _ _ => 0) FU 0 (sI M q 4 (nI 0)) h0 ⟨gI_same .., fun k hk => by omega⟩ (hP.pl f0 (by omega) hq) (by omega) (by omega) (by omega) (FU_lt (by omega))
  refine ⟨M1, ?_, f0.trans f1, r1⟩
  have e1 : f_Plan_readSteps 8 q t p (nI 0) (sI M q 4 (nI 0)) = some M1 := e1
  simp (disch := omega) only [f_Plan_read, e1, bI_s, bV_s, bL_s, bR_s, bG_s, bG_n, bX_l, bX_r, ck_nI, nI_clamp, nI_leT, nI_leF, nI_ltT, nI_ltF, nI_eqF, nI_add, pk_mul, ofN, bt_e, or0, Nat.zero_add, Nat.add_zero, ↓reduceIte, if_true, if_false, Bool.false_eq_true, eq_self, li0, li1, li2, li3, li4, li5, li6, li7, li8, li9, li10, li11, li12, li14, li15, li16, li18, li19, li20, li23, li24, li25, li26, li27, li30, li31, li32, li36, li40, li41, li42, li43, li44, li45, li47, li48, li57, li59, li60, li91, li93, li96, li97, li100, li105, li122, li150, li200, li255, li400, li500, li600, li999, li1000, li1001, li2000, li2001, li2002, li2003, li2004, li2005, li2006, li32767, li100000, li_neg, li13, li17, li21, li22, li28, li29, li33, li34, li35, li37, li38, li39, li46, li49, li50, li51, li52, li53, li63, li80, li115, li160]
theorem wkz_ok (hT : ∀ i, i < E → T i < 256) (hE : E ≤ 150) (oP : okP P) (h : (wkz P T E).1 = 0) : (wkz P T E).2.2.2.1 ≤ 25 ∧ ∃ u, wfs P (wkz P T E).2.2.2.2 u 6 0 (wkz P T E).2.2.2.1 := by
  obtain ⟨⟨x1, x2, x3⟩, _, u, x4⟩ := wTp_g (T := T) (wT_g hT oP 8 0) (E + 1) 0 0 (fun _ _ => 0) (Nat.zero_le E) h
  exact ⟨by show (wTp (wT P T E 8 0) T E (E + 1) 0 0 (fun _ _ => 0)).2.2.2.1 ≤ 25; omega, u, x4⟩
end
