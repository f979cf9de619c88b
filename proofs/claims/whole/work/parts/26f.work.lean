/-! # functional level, 79: the model reads steps -/
section
variable {M M' M1 M2 N N' : Mm} {m E a k f n c op R x : Nat} {T : Nat → Nat} {B B' P : TT} {ρ : Nat → Mm → Option Mm} {φ : Nat → Nat → TT → Ov} {p0 p1 : Int32}
def wkD (m a j : Nat) : Prop := uD m a j ∨ (a = m ∧ (j = 8 ∨ j = 32)) ∨ (m + 390 ≤ a ∧ a < m + 470)
def isSt (M : Mm) (m n : Nat) (B : TT) : Prop := gI M m 32 = nI n ∧ ∀ k, k < n → gI M (m + 389 + 1 + k) 0 = nI (B 0 k) ∧ (B 0 k = 0 → gI M (m + 389 + 1 + k) 1 = nI (B 1 k) ∧ gI M (m + 389 + 1 + k) 2 = nI (B 2 k) ∧ gI M (m + 389 + 1 + k) 3 = nI (B 3 k)) ∧ (B 0 k = 1 → gI M (m + 389 + 1 + k) 2 = nI (B 2 k)) ∧ (B 0 k = 2 → gI M (m + 389 + 1 + k) 1 = nI (B 1 k)) ∧ (B 0 k = 4 → gI M (m + 389 + 1 + k) 1 = nI (B 1 k)) ∧ (B 4 k ≠ 0 → gI M (m + 389 + 1 + k) 4 = nI (B 4 k))
def pt3 (M : Mm) (m : Nat) (P : TT) : Prop := gI M (m + 4) 0 = nI (P 0 0) ∧ gI M (m + 4) 1 = nI (P 0 2) ∧ gI M (m + 4) 2 = nI (P 0 5)
theorem FX.wu (h : FX (uD m) M M1) : FX (wkD m) M M1 := h.mono (fun _ _ q => Or.inl q)
theorem isSt.mv (h : isSt M m n B) (e0 : gI N m 32 = gI M m 32) (e : ∀ k j, k < n → gI N (m + 389 + 1 + k) j = gI M (m + 389 + 1 + k) j) : isSt N m n B := by
  refine ⟨e0.trans h.1, fun k hk => ?_⟩
  rw [e k 0 hk, e k 1 hk, e k 2 hk, e k 3 hk, e k 4 hk]
  exact h.2 k hk
theorem isSt.ud (h : isSt M m n B) (g : FX (uD m) M N) : isSt N m n B := h.mv (g.2.1 _ _ (by unfold uD; omega)) (fun k j _ => g.2.1 _ _ (by unfold uD; omega))
theorem pt3.wk (h : pt3 M m P) (g : FX (wkD m) M N) : pt3 N m P := ⟨by rw [g.2.1 _ _ (by unfold wkD uD; omega)]; exact h.1, by rw [g.2.1 _ _ (by unfold wkD uD; omega)]; exact h.2.1, by rw [g.2.1 _ _ (by unfold wkD uD; omega)]; exact h.2.2⟩
theorem isSt.nx (h : isSt M m n B) (e0 : gI N m 32 = nI (n + 1)) (e : ∀ k j, k < n → gI N (m + 389 + 1 + k) j = gI M (m + 389 + 1 + k) j) (hB : ∀ i k, k < n → B' i k = B i k) (hn : gI N (m + 389 + 1 + n) 0 = nI (B' 0 n) ∧ (B' 0 n = 0 → gI N (m + 389 + 1 + n) 1 = nI (B' 1 n) ∧ gI N (m + 389 + 1 + n) 2 = nI (B' 2 n) ∧ gI N (m + 389 + 1 + n) 3 = nI (B' 3 n)) ∧ (B' 0 n = 1 → gI N (m + 389 + 1 + n) 2 = nI (B' 2 n)) ∧ (B' 0 n = 2 → gI N (m + 389 + 1 + n) 1 = nI (B' 1 n)) ∧ (B' 0 n = 4 → gI N (m + 389 + 1 + n) 1 = nI (B' 1 n)) ∧ (B' 4 n ≠ 0 → gI N (m + 389 + 1 + n) 4 = nI (B' 4 n))) : isSt N m (n + 1) B' := by
  refine ⟨e0, fun k hk => ?_⟩
  by_cases c : k = n
  · rw [c]; exact hn
  · rw [e k 0 (by omega), e k 1 (by omega), e k 2 (by omega), e k 3 (by omega), e k 4 (by omega), hB 0 k (by omega), hB 1 k (by omega), hB 2 k (by omega), hB 3 k (by omega), hB 4 k (by omega)]
    exact h.2 k (by omega)
def mW (M : Mm) (m : Nat) (T : Nat → Nat) (E op : Nat) (r : Ov) : Prop := (r.1 = 0 ∧ MTp M m T E r.2.2.1 0 4294967295 ∧ isSt M m r.2.2.2.1 r.2.2.2.2 ∧ gI M m 8 = nI op) ∨ (r.1 ≠ 0 ∧ ∃ a', MTp M m T E a' r.1 r.2.1)
def SM (m : Nat) (P : TT) (T : Nat → Nat) (E op : Nat) (F : Mm → Option Mm) (φ : Nat → Nat → TT → Ov) : Prop :=
  ∀ M a n B, MTp M m T E a 0 4294967295 → isSt M m n B → gI M m 8 = nI op → pt3 M m P → 6 * n ≤ a → ∃ M', F M = some M' ∧ FX (wkD m) M M' ∧ mW M' m T E op (φ a n B)
theorem M_numb (h : MTp M m T E a 0 f) (hp : p1 < nI 100000) : ∃ z M', f_M_number m p0 p1 M = some (z, M') ∧ FX (uD m) M M' ∧ ((nK T E a p0 p1 = 0 ∧ z = nI (nV T E a) ∧ MTp M' m T E (nE T E a) 0 f) ∨ (nK T E a p0 p1 ≠ 0 ∧ ∃ a', MTp M' m T E a' (nK T E a p0 p1) (sk T E a))) := by
  obtain ⟨z, M1, e1, f1, h1, hz⟩ := M_number (p0 := p0) (p1 := p1) h hp
  refine ⟨z, M1, e1, f1, ?_⟩
  by_cases c : nK T E a p0 p1 = 0
  · have hz := hz (by rw [nO_0 c])
    rw [nO_0 c] at h1
    exact Or.inl ⟨c, hz, h1⟩
  · rw [nO_1 c] at h1
    exact Or.inr ⟨c, _, h1⟩
theorem MTp.rw (h : MTp M m T E a k f) (hR : m + 390 ≤ R) (j : Nat) (v : Int32) : MTp (sI M R j v) m T E a k f := h.fx ((FX.rf (fun a _ => a = R) M).sI rfl) (fun j q => by omega) (fun j q => by omega)
theorem fx_rw (h : FX (wkD m) M N) (hR : m + 390 ≤ R ∧ R < m + 470) {j : Nat} {v : Int32} : FX (wkD m) M (sI N R j v) := h.sI (Or.inr (Or.inr hR))
/-! the end of a step -/
theorem M_jF (hR : m + 390 ≤ R ∧ R < m + 470) (h : MTp N m T E a k f) (hk : k ≠ 0) (y : Int32) : ∃ M', f_M_readsStep_j ρ m y R N = some M' ∧ FX (wkD m) N M' ∧ MTp M' m T E a k f := by
  have g := h.rw hR.1 4 (gI N m 32)
  have e := M_signF g hk (nI 59)
  refine ⟨_, ?_, fx_rw (FX.rf _ N) hR, g⟩
  simp (disch := omega) only [f_M_readsStep_j, e, bI_s, bV_s, bL_s, bR_s, bG_s, bG_n, bX_l, bX_r, ck_nI, nI_clamp, nI_leT, nI_leF, nI_ltT, nI_ltF, nI_eqF, nI_add, pk_mul, ofN, bt_e, or0, Nat.zero_add, Nat.add_zero, ↓reduceIte, if_true, if_false, Bool.false_eq_true, eq_self, li0, li1, li2, li3, li4, li5, li6, li7, li8, li9, li10, li11, li12, li14, li15, li16, li18, li19, li20, li23, li24, li25, li26, li27, li30, li31, li32, li36, li40, li41, li42, li43, li44, li45, li47, li48, li57, li59, li60, li91, li93, li96, li97, li100, li105, li122, li150, li200, li255, li400, li500, li600, li999, li1000, li1001, li2000, li2001, li2002, li2003, li2004, li2005, li2006, li32767, li100000, li_neg, li13, li17, li21, li22, li28, li29, li33, li34, li35, li37, li38, li39, li46, li49, li50, li51, li52, li53, li63, li80, li115, li160]
theorem M_eF (hR : m + 390 ≤ R ∧ R < m + 470) (h : MTp N m T E a k f) (hk : k ≠ 0) (hx : x ≤ 3) : ∃ M', f_M_readsStep_e ρ m (nI x) R N = some M' ∧ FX (wkD m) N M' ∧ MTp M' m T E a k f := by
  have n1 : ∀ p0 p1, f_M_number m p0 p1 N = some (nI 0, N) := fun p0 p1 => M_numberF h hk
  obtain q | q | q | q : x = 0 ∨ x = 1 ∨ x = 2 ∨ x = 3 := by omega
  · subst q
    obtain ⟨M', e, f1, g⟩ := M_jF (ρ := ρ) hR (h.rw hR.1 3 (nI 0)) hk (nI 0)
    refine ⟨M', ?_, (fx_rw (FX.rf _ N) hR).trans f1, g⟩
    simp (disch := omega) only [f_M_readsStep_e, f_M_readsStep_f, f_M_readsStep_g, n1, e, bI_s, bV_s, bL_s, bR_s, bG_s, bG_n, bX_l, bX_r, ck_nI, nI_clamp, nI_leT, nI_leF, nI_ltT, nI_ltF, nI_eqF, nI_add, pk_mul, ofN, bt_e, or0, Nat.zero_add, Nat.add_zero, ↓reduceIte, if_true, if_false, Bool.false_eq_true, eq_self, li0, li1, li2, li3, li4, li5, li6, li7, li8, li9, li10, li11, li12, li14, li15, li16, li18, li19, li20, li23, li24, li25, li26, li27, li30, li31, li32, li36, li40, li41, li42, li43, li44, li45, li47, li48, li57, li59, li60, li91, li93, li96, li97, li100, li105, li122, li150, li200, li255, li400, li500, li600, li999, li1000, li1001, li2000, li2001, li2002, li2003, li2004, li2005, li2006, li32767, li100000, li_neg, li13, li17, li21, li22, li28, li29, li33, li34, li35, li37, li38, li39, li46, li49, li50, li51, li52, li53, li63, li80, li115, li160]
  · subst q
    obtain ⟨M', e, f1, g⟩ := M_jF (ρ := ρ) hR h hk (nI 1)
    refine ⟨M', ?_, f1, g⟩
    simp (disch := omega) only [f_M_readsStep_e, f_M_readsStep_f, f_M_readsStep_g, e, bI_s, bV_s, bL_s, bR_s, bG_s, bG_n, bX_l, bX_r, ck_nI, nI_clamp, nI_leT, nI_leF, nI_ltT, nI_ltF, nI_eqF, nI_add, pk_mul, ofN, bt_e, or0, Nat.zero_add, Nat.add_zero, ↓reduceIte, if_true, if_false, Bool.false_eq_true, eq_self, li0, li1, li2, li3, li4, li5, li6, li7, li8, li9, li10, li11, li12, li14, li15, li16, li18, li19, li20, li23, li24, li25, li26, li27, li30, li31, li32, li36, li40, li41, li42, li43, li44, li45, li47, li48, li57, li59, li60, li91, li93, li96, li97, li100, li105, li122, li150, li200, li255, li400, li500, li600, li999, li1000, li1001, li2000, li2001, li2002, li2003, li2004, li2005, li2006, li32767, li100000, li_neg, li13, li17, li21, li22, li28, li29, li33, li34, li35, li37, li38, li39, li46, li49, li50, li51, li52, li53, li63, li80, li115, li160]
  · subst q
    obtain ⟨M', e, f1, g⟩ := M_jF (ρ := ρ) hR (h.rw hR.1 1 (nI 0)) hk (nI 2)
    refine ⟨M', ?_, (fx_rw (FX.rf _ N) hR).trans f1, g⟩
    simp (disch := omega) only [f_M_readsStep_e, f_M_readsStep_f, f_M_readsStep_g, n1, e, bI_s, bV_s, bL_s, bR_s, bG_s, bG_n, bX_l, bX_r, ck_nI, nI_clamp, nI_leT, nI_leF, nI_ltT, nI_ltF, nI_eqF, nI_add, pk_mul, ofN, bt_e, or0, Nat.zero_add, Nat.add_zero, ↓reduceIte, if_true, if_false, Bool.false_eq_true, eq_self, li0, li1, li2, li3, li4, li5, li6, li7, li8, li9, li10, li11, li12, li14, li15, li16, li18, li19, li20, li23, li24, li25, li26, li27, li30, li31, li32, li36, li40, li41, li42, li43, li44, li45, li47, li48, li57, li59, li60, li91, li93, li96, li97, li100, li105, li122, li150, li200, li255, li400, li500, li600, li999, li1000, li1001, li2000, li2001, li2002, li2003, li2004, li2005, li2006, li32767, li100000, li_neg, li13, li17, li21, li22, li28, li29, li33, li34, li35, li37, li38, li39, li46, li49, li50, li51, li52, li53, li63, li80, li115, li160]
  · subst q
    obtain ⟨M', e, f1, g⟩ := M_jF (ρ := ρ) hR h hk (nI 3)
    refine ⟨M', ?_, f1, g⟩
    simp (disch := omega) only [f_M_readsStep_e, f_M_readsStep_f, f_M_readsStep_g, e, bI_s, bV_s, bL_s, bR_s, bG_s, bG_n, bX_l, bX_r, ck_nI, nI_clamp, nI_leT, nI_leF, nI_ltT, nI_ltF, nI_eqF, nI_add, pk_mul, ofN, bt_e, or0, Nat.zero_add, Nat.add_zero, ↓reduceIte, if_true, if_false, Bool.false_eq_true, eq_self, li0, li1, li2, li3, li4, li5, li6, li7, li8, li9, li10, li11, li12, li14, li15, li16, li18, li19, li20, li23, li24, li25, li26, li27, li30, li31, li32, li36, li40, li41, li42, li43, li44, li45, li47, li48, li57, li59, li60, li91, li93, li96, li97, li100, li105, li122, li150, li200, li255, li400, li500, li600, li999, li1000, li1001, li2000, li2001, li2002, li2003, li2004, li2005, li2006, li32767, li100000, li_neg, li13, li17, li21, li22, li28, li29, li33, li34, li35, li37, li38, li39, li46, li49, li50, li51, li52, li53, li63, li80, li115, li160]
theorem M_dF (hR : m + 390 ≤ R ∧ R < m + 470) (h : MTp N m T E a k f) (hk : k ≠ 0) (hx : x ≤ 1) : ∃ M', f_M_readsStep_d ρ m (nI x) R N = some M' ∧ FX (wkD m) N M' ∧ MTp M' m T E a k f := by
  have n1 : ∀ p0 p1, f_M_number m p0 p1 N = some (nI 0, N) := fun p0 p1 => M_numberF h hk
  obtain ⟨M', e, f1, g⟩ := M_eF (ρ := ρ) (x := x) hR (h.rw hR.1 2 (nI 0)) hk (by omega)
  refine ⟨M', ?_, (fx_rw (FX.rf _ N) hR).trans f1, g⟩
  simp (disch := omega) only [f_M_readsStep_d, n1, e, bI_s, bV_s, bL_s, bR_s, bG_s, bG_n, bX_l, bX_r, ck_nI, nI_clamp, nI_leT, nI_leF, nI_ltT, nI_ltF, nI_eqF, nI_add, pk_mul, ofN, bt_e, or0, Nat.zero_add, Nat.add_zero, ↓reduceIte, if_true, if_false, Bool.false_eq_true, eq_self, li0, li1, li2, li3, li4, li5, li6, li7, li8, li9, li10, li11, li12, li14, li15, li16, li18, li19, li20, li23, li24, li25, li26, li27, li30, li31, li32, li36, li40, li41, li42, li43, li44, li45, li47, li48, li57, li59, li60, li91, li93, li96, li97, li100, li105, li122, li150, li200, li255, li400, li500, li600, li999, li1000, li1001, li2000, li2001, li2002, li2003, li2004, li2005, li2006, li32767, li100000, li_neg, li13, li17, li21, li22, li28, li29, li33, li34, li35, li37, li38, li39, li46, li49, li50, li51, li52, li53, li63, li80, li115, li160]
theorem M_jY (hR : m + 390 ≤ R ∧ R < m + 470) (h : MTp N m T E a 0 4294967295) (h32 : gI N m 32 = nI n) (h8 : gI N m 8 = nI op) (hs : isSt (sI N R 4 (nI n)) m n B) (y : Int32) : ∃ M', f_M_readsStep_j ρ m y R N = some M' ∧ FX (wkD m) N M' ∧ mW M' m T E op (sgW T E 59 a n B) := by
  have g := h.rw hR.1 4 (nI n)
  have p8 : gI (sI N R 4 (nI n)) m 8 = nI op := by rw [gI_ne (by omega)]; exact h8
  unfold sgW
  by_cases q : sk T E a < E ∧ T (sk T E a) = 59
  · rw [if_pos q]
    obtain ⟨M1, e1, f1, g1⟩ := M_signY g q.1 q.2
    refine ⟨M1, ?_, (fx_rw (FX.rf _ N) hR).trans f1.wu, Or.inl ⟨rfl, g1, hs.ud f1, op_ud p8 f1⟩⟩
    simp (disch := omega) only [f_M_readsStep_j, h32, e1, bI_s, bV_s, bL_s, bR_s, bG_s, bG_n, bX_l, bX_r, ck_nI, nI_clamp, nI_leT, nI_leF, nI_ltT, nI_ltF, nI_eqF, nI_add, pk_mul, ofN, bt_e, or0, Nat.zero_add, Nat.add_zero, ↓reduceIte, if_true, if_false, Bool.false_eq_true, eq_self, li0, li1, li2, li3, li4, li5, li6, li7, li8, li9, li10, li11, li12, li14, li15, li16, li18, li19, li20, li23, li24, li25, li26, li27, li30, li31, li32, li36, li40, li41, li42, li43, li44, li45, li47, li48, li57, li59, li60, li91, li93, li96, li97, li100, li105, li122, li150, li200, li255, li400, li500, li600, li999, li1000, li1001, li2000, li2001, li2002, li2003, li2004, li2005, li2006, li32767, li100000, li_neg, li13, li17, li21, li22, li28, li29, li33, li34, li35, li37, li38, li39, li46, li49, li50, li51, li52, li53, li63, li80, li115, li160]
  · rw [if_neg q]
    obtain ⟨M1, e1, f1, g1⟩ := M_signN g (by omega) q
    refine ⟨M1, ?_, (fx_rw (FX.rf _ N) hR).trans f1.wu, Or.inr ⟨by show (1 : Nat) ≠ 0; omega, _, g1⟩⟩
    simp (disch := omega) only [f_M_readsStep_j, h32, e1, bI_s, bV_s, bL_s, bR_s, bG_s, bG_n, bX_l, bX_r, ck_nI, nI_clamp, nI_leT, nI_leF, nI_ltT, nI_ltF, nI_eqF, nI_add, pk_mul, ofN, bt_e, or0, Nat.zero_add, Nat.add_zero, ↓reduceIte, if_true, if_false, Bool.false_eq_true, eq_self, li0, li1, li2, li3, li4, li5, li6, li7, li8, li9, li10, li11, li12, li14, li15, li16, li18, li19, li20, li23, li24, li25, li26, li27, li30, li31, li32, li36, li40, li41, li42, li43, li44, li45, li47, li48, li57, li59, li60, li91, li93, li96, li97, li100, li105, li122, li150, li200, li255, li400, li500, li600, li999, li1000, li1001, li2000, li2001, li2002, li2003, li2004, li2005, li2006, li32767, li100000, li_neg, li13, li17, li21, li22, li28, li29, li33, li34, li35, li37, li38, li39, li46, li49, li50, li51, li52, li53, li63, li80, li115, li160]
/-- the steps within an again -/
theorem M_inner (hR : m + 390 ≤ R ∧ R < m + 470) (hE : E ≤ 150) (hS : SM m P T E op (ρ m) φ) (hg : ∀ a n B, a ≤ E → gW P E op a n B (φ a n B)) (hk : ∀ a n B, a ≤ E → φ (sk T E a) n B = φ a n B) : ∀ (u a n : Nat) (B : TT) (w : Nat) (M : Mm), a ≤ E → MTp M m T E (sk T E a) 0 4294967295 → isSt M m n B → gI M m 8 = nI op → pt3 M m P → 6 * n ≤ a → E - a < u → u < w → ∃ M', f_M_readsStep_h ρ w m (nI 4) R M = f_M_readsStep_j ρ m (nI 4) R (sI M' m 8 (gI M' m 8 - nI 1)) ∧ FX (wkD m) M M' ∧ mW M' m T E op (wI φ T E u a n B) := by
  intro u
  induction u with
  | zero => intro a n B w M _ _ _ _ _ _ h _; omega
  | succ u ih =>
    intro a n B w M haE h1 h2 h3 h4 h5 hu hw
    obtain ⟨w, rfl⟩ : ∃ v, w = v + 2 := ⟨w - 2, by omega⟩
    have hs := sk_b (T := T) haE
    have hi := sk_i (T := T) haE
    have k5 := h1.1.2.2.1
    have a4 := h1.1.2.1
    have hE6 := h1.2.2.1
    unfold wI
    by_cases c : sk T E a < E ∧ T (sk T E a) = 93
    · rw [if_pos c]
      have b1 := M_at h1 c.1
      rw [c.2] at b1
      obtain ⟨M1, e1, f1, g1⟩ := M_signY (c := 93) h1 (by rw [hi]; exact c.1) (by rw [hi]; exact c.2)
      rw [hi] at g1
      refine ⟨M1, ?_, f1.wu, Or.inl ⟨rfl, g1, h2.ud f1, op_ud h3 f1⟩⟩
      conv => lhs; unfold f_M_readsStep_h
      simp (disch := omega) only [f_M_readsStep_i, k5, a4, b1, e1, bI_s, bV_s, bL_s, bR_s, bG_s, bG_n, bX_l, bX_r, ck_nI, nI_clamp, nI_leT, nI_leF, nI_ltT, nI_ltF, nI_eqF, nI_add, pk_mul, ofN, bt_e, or0, Nat.zero_add, Nat.add_zero, ↓reduceIte, if_true, if_false, Bool.false_eq_true, eq_self, li0, li1, li2, li3, li4, li5, li6, li7, li8, li9, li10, li11, li12, li14, li15, li16, li18, li19, li20, li23, li24, li25, li26, li27, li30, li31, li32, li36, li40, li41, li42, li43, li44, li45, li47, li48, li57, li59, li60, li91, li93, li96, li97, li100, li105, li122, li150, li200, li255, li400, li500, li600, li999, li1000, li1001, li2000, li2001, li2002, li2003, li2004, li2005, li2006, li32767, li100000, li_neg, li13, li17, li21, li22, li28, li29, li33, li34, li35, li37, li38, li39, li46, li49, li50, li51, li52, li53, li63, li80, li115, li160]
    · rw [if_neg c]
      have b1 : ∃ z, f_M_byteAt m (nI (sk T E a)) M = some (z, M) ∧ z ≠ nI 93 := by
        by_cases q : sk T E a < E
        · refine ⟨_, M_at h1 q, fun z => c ⟨q, ?_⟩⟩
          have := h1.2.2.2 _ q
          exact nI_inj (by omega) (by omega) z
        · exact ⟨_, M_atE h1 (by omega) (by omega), by decide⟩
      obtain ⟨z, b1, nz⟩ := b1
      obtain ⟨M2, e2, f2, r2⟩ := hS M _ n B h1 h2 h3 h4 (by omega)
      rw [hk a n B haE] at r2
      have gk := hg a n B haE
      generalize φ a n B = r at r2 gk ⊢
      have eb : ∀ M3, f_M_blanks m M2 = some M3 → f_M_readsStep_h ρ (w + 2) m (nI 4) R M = f_M_readsStep_h ρ (w + 1) m (nI 4) R M3 := fun M3 e3 => by
        conv => lhs; unfold f_M_readsStep_h
        simp (disch := omega) only [k5, a4, b1, eq_false nz, e2, e3, bI_s, bV_s, bL_s, bR_s, bG_s, bG_n, bX_l, bX_r, ck_nI, nI_clamp, nI_leT, nI_leF, nI_ltT, nI_ltF, nI_eqF, nI_add, pk_mul, ofN, bt_e, or0, Nat.zero_add, Nat.add_zero, ↓reduceIte, if_true, if_false, Bool.false_eq_true, eq_self, li0, li1, li2, li3, li4, li5, li6, li7, li8, li9, li10, li11, li12, li14, li15, li16, li18, li19, li20, li23, li24, li25, li26, li27, li30, li31, li32, li36, li40, li41, li42, li43, li44, li45, li47, li48, li57, li59, li60, li91, li93, li96, li97, li100, li105, li122, li150, li200, li255, li400, li500, li600, li999, li1000, li1001, li2000, li2001, li2002, li2003, li2004, li2005, li2006, li32767, li100000, li_neg, li13, li17, li21, li22, li28, li29, li33, li34, li35, li37, li38, li39, li46, li49, li50, li51, li52, li53, li63, li80, li115, li160]
      rcases r2 with ⟨c2, g2, L2, p2⟩ | ⟨c2, a', g2⟩
      · rw [bW_s c2]
        obtain ⟨⟨x1, x2, x3⟩, _⟩ := gk c2
        obtain ⟨M3, e3, f3, g3⟩ := M_blanks g2
        obtain ⟨M4, e4, f4, r4⟩ := ih _ _ _ (w + 1) M3 x2 g3 (L2.ud f3) (op_ud p2 f3) (h4.wk (f2.trans f3.wu)) (by omega) (by omega) (by omega)
        exact ⟨M4, (eb M3 e3).trans e4, (f2.trans f3.wu).trans f4, r4⟩
      · rw [bW_f c2]
        obtain ⟨M3, e3, f3, g3⟩ := M_blanks g2
        have y5 := g3.1.2.2.1
        have hk3 := g3.2.2.1
        have e4 := M_signF g3 c2 (nI 93)
        refine ⟨M3, ?_, f2.trans f3.wu, Or.inr ⟨c2, _, g3⟩⟩
        rw [eb M3 e3]
        simp (disch := omega) only [f_M_readsStep_h, f_M_readsStep_i, y5, e4, bI_s, bV_s, bL_s, bR_s, bG_s, bG_n, bX_l, bX_r, ck_nI, nI_clamp, nI_leT, nI_leF, nI_ltT, nI_ltF, nI_eqF, nI_add, pk_mul, ofN, bt_e, or0, Nat.zero_add, Nat.add_zero, ↓reduceIte, if_true, if_false, Bool.false_eq_true, eq_self, li0, li1, li2, li3, li4, li5, li6, li7, li8, li9, li10, li11, li12, li14, li15, li16, li18, li19, li20, li23, li24, li25, li26, li27, li30, li31, li32, li36, li40, li41, li42, li43, li44, li45, li47, li48, li57, li59, li60, li91, li93, li96, li97, li100, li105, li122, li150, li200, li255, li400, li500, li600, li999, li1000, li1001, li2000, li2001, li2002, li2003, li2004, li2005, li2006, li32767, li100000, li_neg, li13, li17, li21, li22, li28, li29, li33, li34, li35, li37, li38, li39, li46, li49, li50, li51, li52, li53, li63, li80, li115, li160]
end
