/-! # functional level, 28: still -/
theorem lL0 : (0 : Int64) = lN 0 := id rfl
theorem lL1 : (1 : Int64) = lN 1 := id rfl
theorem lL2 : (2 : Int64) = lN 2 := id rfl
/-- a loop that goes on with what comes behind it -/
theorem lp_ex {α R : Type} (F : Nat → Nat → α → R) (K : α → R) (n : Nat) (I : Nat → α → Prop) (J : α → Prop) (h1 : ∀ u i s, i < n → I i s → ∃ s', F (u + 1) i s = F u (i + 1) s' ∧ I (i + 1) s') (h0 : ∀ u s, I n s → ∃ s', F (u + 1) n s = K s' ∧ J s') (s0 : α) (hI : I 0 s0) (u : Nat) (hu : n < u) : ∃ s', F u 0 s0 = K s' ∧ J s' := by
  have key : ∀ d i u s, i + d = n → d < u → I i s → ∃ s', F u i s = K s' ∧ J s' := by
    intro d
    induction d with
    | zero =>
      intro i u s hi hu hI
      obtain ⟨u, rfl⟩ : ∃ v, u = v + 1 := ⟨u - 1, by omega⟩
      obtain rfl : i = n := by omega
      exact h0 u s hI
    | succ d ih =>
      intro i u s hi hu hI
      obtain ⟨u, rfl⟩ : ∃ v, u = v + 1 := ⟨u - 1, by omega⟩
      obtain ⟨s', e, hI'⟩ := h1 u i s (by omega) hI
      obtain ⟨s2, e2, j2⟩ := ih (i + 1) u s' (by omega) (by omega) hI'
      exact ⟨s2, e.trans e2, j2⟩
  exact key n 0 u s0 (by omega) hu hI
def upv (t : Nat → Nat) (k x : Nat) : Nat → Nat := fun j => if j = k then x else t j
def slA (P : TT) (a : Nat) : Nat := if P 7 a = 4294967295 then a else P 7 a
def stA (P : TT) (q : Nat) (c : Nat → Nat) (a : Nat) (t : Nat → Nat) : Nat → Nat := upv (upv t a (t a + c a * (16 - q))) (slA P a) (upv t a (t a + c a * (16 - q)) (slA P a) + c a * q)
def nxV (P : TT) (q : Nat) (c : Nat → Nat) (i : Nat) : Nat → Nat := fo i (fun a t => stA P q c a t) (fun _ => 0)
def chV (P : TT) (q f n : Nat) : Nat → Nat := fo n (fun _ c => nxV P q c 10) (fun a => if a = f then 1 else 0)
theorem sm_upv {t : Nat → Nat} {a x : Nat} : ∀ n : Nat, a < n → sm n (upv t a (t a + x)) = sm n t + x
  | 0 => fun h => by omega
  | n + 1 => fun h => by
    show sm n (upv t a (t a + x)) + upv t a (t a + x) n = sm n t + t n + x
    rcases Nat.lt_or_ge a n with c | c
    · rw [sm_upv n c]
      have : upv t a (t a + x) n = t n := if_neg (by omega)
      omega
    · obtain rfl : a = n := by omega
      have e1 : upv t a (t a + x) a = t a + x := if_pos rfl
      rw [e1, sm_congr (f := upv t a (t a + x)) (g := t) a (fun k hk => (if_neg (show ¬ k = a by omega) : upv t a (t a + x) k = t k))]; omega
theorem slA_lt {P : TT} (oP : okP P) {a : Nat} (ha : a < 10) : slA P a < 10 := by
  unfold slA
  have := oP.kin ha
  split <;> omega
theorem stA_sm {P : TT} (oP : okP P) {q : Nat} (hq : q ≤ 16) {c t : Nat → Nat} {a : Nat} (ha : a < 10) : sm 10 (stA P q c a t) = sm 10 t + 16 * c a := by
  unfold stA
  rw [sm_upv 10 (slA_lt oP ha), sm_upv 10 ha]
  have : c a * (16 - q) + c a * q = 16 * c a := by rw [← Nat.mul_add, Nat.sub_add_cancel hq, Nat.mul_comm]
  omega
theorem nxV_sm {P : TT} (oP : okP P) {q : Nat} (hq : q ≤ 16) {c : Nat → Nat} : ∀ i : Nat, i ≤ 10 → sm 10 (nxV P q c i) = 16 * sm i c
  | 0 => fun _ => by show sm 10 (fun _ => 0) = 16 * 0; rw [sm_const]
  | i + 1 => fun h => by
    show sm 10 (stA P q c i (nxV P q c i)) = 16 * (sm i c + c i)
    rw [stA_sm oP hq (by omega), nxV_sm oP hq i (by omega)]; omega
theorem chV_sm {P : TT} (oP : okP P) {q f : Nat} (hq : q ≤ 16) (hf : f < 10) : ∀ n : Nat, sm 10 (chV P q f n) = 16 ^ n
  | 0 => by
    have : sm 10 (chV P q f 0) = sm 10 (upv (fun _ => 0) f (0 + 1)) := sm_congr _ (fun k _ => rfl)
    rw [this, sm_upv (t := fun _ => 0) 10 hf, sm_const]
  | n + 1 => by
    show sm 10 (nxV P q (chV P q f n) 10) = 16 ^ (n + 1)
    rw [nxV_sm oP hq 10 (by omega), chV_sm oP hq hf n, Nat.pow_succ, Nat.mul_comm]
theorem sm_one_le {f : Nat → Nat} {a : Nat} : ∀ n : Nat, a < n → f a ≤ sm n f
  | 0 => fun h => by omega
  | n + 1 => fun h => by
    show f a ≤ sm n f + f n
    rcases Nat.lt_or_ge a n with c | c
    · have := sm_one_le (f := f) n c; omega
    · obtain rfl : a = n := by omega
      omega
section
variable {M M' M1 N : Mm} {o m p a : Nat} {S : St} {P W : TT} {c t : Nat → Nat}
def isV (M : Mm) (a : Nat) (c : Nat → Nat) : Prop := ∀ k, k < 10 → gL M a k = lN (c k)
theorem isV.set (h : isV M a t) {k x : Nat} (hk : k < 10) : isV (sL M a k (lN x)) a (upv t k x) := fun j hj => by
  unfold upv
  by_cases e : j = k
  · subst e; rw [if_pos rfl, gL_same]
  · rw [if_neg e, gL_ne (by omega)]; exact h j hj
theorem isV.ne {b k : Nat} {x : Int64} (h : isV M a c) (hb : a ≠ b) : isV (sL M b k x) a c := fun j hj => by rw [gL_ne (by omega)]; exact h j hj
/-- one dawn, one act, for the class -/
theorem C_chF {q x : Nat} (hq : q ≤ 16) (oP : okP P) (h1 : isV M (o + 35) c) (h2 : isV M (o + 36) t) (hx : x < 10) (kc : Nat → Int32 → Int32 → Int32 → Int32 → Int32 → Mm → Option (Int64 × Mm)) (ke : Nat → Int32 → Int32 → Int32 → Int32 → Int32 → Int32 → Mm → Option (Int64 × Mm)) (p0 p2 p3 x5 : Int32) : ∃ M', f_C_chanceAfter_f kc ke o p0 (nI q) p2 p3 x5 (nI x) (nI (slA P x)) M = ke o p0 (nI q) p2 p3 x5 (nI (x + 1)) M' ∧ (isV M' (o + 35) c ∧ isV M' (o + 36) (stA P q c x t)) ∧ Fr (fun y => y = o + 35 ∨ y = o + 36) M M' := by
  have hsl := slA_lt oP hx
  have v1 : isV (sL M (o + 36) x (lN (t x + c x * (16 - q)))) (o + 36) (upv t x (t x + c x * (16 - q))) := h2.set hx
  refine ⟨sL (sL M (o + 36) x (lN (t x + c x * (16 - q)))) (o + 36) (slA P x) (lN (upv t x (t x + c x * (16 - q)) (slA P x) + c x * q)), ?_, ⟨(h1.ne (by omega)).ne (by omega), v1.set hsl⟩, ((Fr.rf _ M).sL (Or.inr rfl)).sL (Or.inr rfl)⟩
  have e1 := v1 (slA P x) hsl
  have e3 : gL (sL M (o + 36) x (lN (t x + c x * (16 - q)))) (o + 35) x = lN (c x) := by rw [gL_ne (by omega)]; exact h1 x hx
  simp (disch := omega) only [f_C_chanceAfter_f, h1 x hx, h2 x hx, pk_sub, nI_l, lN_mul, lN_add, e1, e3, bI_s, bV_s, bL_s, bR_s, bG_s, bG_n, bX_l, bX_r, ck_nI, nI_clamp, nI_leT, nI_leF, nI_ltT, nI_ltF, nI_eqF, nI_add, pk_mul, ofN, bt_e, or0, Nat.zero_add, Nat.add_zero, ↓reduceIte, if_true, if_false, Bool.false_eq_true, eq_self, li0, li1, li2, li3, li4, li5, li6, li7, li8, li9, li10, li11, li12, li14, li15, li16, li18, li19, li20, li23, li24, li25, li26, li27, li30, li31, li32, li36, li40, li41, li42, li43, li44, li45, li47, li48, li57, li59, li60, li91, li93, li96, li97, li100, li105, li122, li150, li200, li255, li400, li500, li600, li999, li1000, li1001, li2000, li2001, li2002, li2003, li2004, li2005, li2006, li32767, li100000, li_neg, li13, li17, li21, li22, li28, li29, li33, li34, li35, li37, li38, li39, li46, li49, li50, li51, li52, li53, li63, li80, li115, li160]
theorem C_chance (hr : gR M o 10 = some p) (hP : isP M p P) (oP : okP P) (hp : o + 37 ≤ p) {f q n ac : Nat} (hf : f < 10) (hq : q ≤ 16) (hn : n ≤ 12) (hac : ac < 10) : ∃ M', f_C_chanceAfter o (nI f) (nI q) (nI n) (nI ac) M = some (lN (chV P q f n ac), M') ∧ Fr (fun y => y = o + 35 ∨ y = o + 36) M M' := by
  -- one dawn
  have dawn : ∀ (kc : Nat → Int32 → Int32 → Int32 → Int32 → Int32 → Mm → Option (Int64 × Mm)) (i : Nat) (c : Nat → Nat) (N : Mm), isV N (o + 35) c → Fr (fun y => y = o + 35 ∨ y = o + 36) M N → ∃ N', f_C_chanceAfter_d kc FU o (nI f) (nI q) (nI n) (nI ac) (nI i) (nI 0) N = kc o (nI f) (nI q) (nI n) (nI ac) (nI (i + 1)) N' ∧ (isV N' (o + 35) (nxV P q c 10) ∧ Fr (fun y => y = o + 35 ∨ y = o + 36) M N') := by
    intro kc i c N hN fN
    have acc : ∀ N : Mm, isV N (o + 35) c → isV N (o + 36) (fun _ => 0) → Fr (fun y => y = o + 35 ∨ y = o + 36) M N → ∃ N', f_C_chanceAfter_e kc FU o (nI f) (nI q) (nI n) (nI ac) (nI i) (nI 0) N = kc o (nI f) (nI q) (nI n) (nI ac) (nI (i + 1)) N' ∧ (isV N' (o + 35) (nxV P q c 10) ∧ Fr (fun y => y = o + 35 ∨ y = o + 36) M N') := by
      intro N g1 g2 g3
      refine lp_ex (fun u x (N : Mm) => f_C_chanceAfter_e kc u o (nI f) (nI q) (nI n) (nI ac) (nI i) (nI x) N) (fun N' => kc o (nI f) (nI q) (nI n) (nI ac) (nI (i + 1)) N') 10 (fun x N => (isV N (o + 35) c ∧ isV N (o + 36) (nxV P q c x)) ∧ Fr (fun y => y = o + 35 ∨ y = o + 36) M N) _ (fun u x N hx hI => ?_) (fun u N hI => ?_) N ⟨⟨g1, g2⟩, g3⟩ FU (FU_lt (by omega))
      · obtain ⟨⟨k1, k2⟩, k3⟩ := hI
        obtain ⟨N', z1, z2, z3⟩ := C_chF hq oP k1 k2 hx kc (f_C_chanceAfter_e kc u) (nI f) (nI n) (nI ac) (nI i)
        refine ⟨N', ?_, z2, k3.trans z3⟩
        rw [← z1]
        have r1 : gR N o 10 = some p := by rw [k3.r (by omega)]; exact hr
        have kn : gI N (p + 7) x = nI (P 7 x) := by rw [k3.i (by omega)]; exact hP.kin hx
        have kk := oP.kin hx
        unfold slA
        by_cases e : P 7 x = 4294967295
        · simp (disch := omega) only [f_C_chanceAfter_e, r1, kn, e, bI_s, bV_s, bL_s, bR_s, bG_s, bG_n, bX_l, bX_r, ck_nI, nI_clamp, nI_leT, nI_leF, nI_ltT, nI_ltF, nI_eqF, nI_add, pk_mul, ofN, bt_e, or0, Nat.zero_add, Nat.add_zero, ↓reduceIte, if_true, if_false, Bool.false_eq_true, eq_self, li0, li1, li2, li3, li4, li5, li6, li7, li8, li9, li10, li11, li12, li14, li15, li16, li18, li19, li20, li23, li24, li25, li26, li27, li30, li31, li32, li36, li40, li41, li42, li43, li44, li45, li47, li48, li57, li59, li60, li91, li93, li96, li97, li100, li105, li122, li150, li200, li255, li400, li500, li600, li999, li1000, li1001, li2000, li2001, li2002, li2003, li2004, li2005, li2006, li32767, li100000, li_neg, li13, li17, li21, li22, li28, li29, li33, li34, li35, li37, li38, li39, li46, li49, li50, li51, li52, li53, li63, li80, li115, li160]
        · simp (disch := omega) only [f_C_chanceAfter_e, r1, kn, e, bI_s, bV_s, bL_s, bR_s, bG_s, bG_n, bX_l, bX_r, ck_nI, nI_clamp, nI_leT, nI_leF, nI_ltT, nI_ltF, nI_eqF, nI_add, pk_mul, ofN, bt_e, or0, Nat.zero_add, Nat.add_zero, ↓reduceIte, if_true, if_false, Bool.false_eq_true, eq_self, li0, li1, li2, li3, li4, li5, li6, li7, li8, li9, li10, li11, li12, li14, li15, li16, li18, li19, li20, li23, li24, li25, li26, li27, li30, li31, li32, li36, li40, li41, li42, li43, li44, li45, li47, li48, li57, li59, li60, li91, li93, li96, li97, li100, li105, li122, li150, li200, li255, li400, li500, li600, li999, li1000, li1001, li2000, li2001, li2002, li2003, li2004, li2005, li2006, li32767, li100000, li_neg, li13, li17, li21, li22, li28, li29, li33, li34, li35, li37, li38, li39, li46, li49, li50, li51, li52, li53, li63, li80, li115, li160]
      · obtain ⟨⟨k1, k2⟩, k3⟩ := hI
        refine ⟨sCl N (o + 36) (o + 35) 0 0 10, ?_, fun j hj => ?_, k3.sCl (Or.inl rfl)⟩
        · simp (disch := omega) only [f_C_chanceAfter_e, bI_s, bV_s, bL_s, bR_s, bG_s, bG_n, bX_l, bX_r, ck_nI, nI_clamp, nI_leT, nI_leF, nI_ltT, nI_ltF, nI_eqF, nI_add, pk_mul, ofN, bt_e, or0, Nat.zero_add, Nat.add_zero, ↓reduceIte, if_true, if_false, Bool.false_eq_true, eq_self, li0, li1, li2, li3, li4, li5, li6, li7, li8, li9, li10, li11, li12, li14, li15, li16, li18, li19, li20, li23, li24, li25, li26, li27, li30, li31, li32, li36, li40, li41, li42, li43, li44, li45, li47, li48, li57, li59, li60, li91, li93, li96, li97, li100, li105, li122, li150, li200, li255, li400, li500, li600, li999, li1000, li1001, li2000, li2001, li2002, li2003, li2004, li2005, li2006, li32767, li100000, li_neg, li13, li17, li21, li22, li28, li29, li33, li34, li35, li37, li38, li39, li46, li49, li50, li51, li52, li53, li63, li80, li115, li160]
        · rw [gL_sCl, if_pos rfl, pk_cpy_in (by omega) (by omega)]
          have : 0 + (j - 0) = j := by omega
          rw [this]; exact k2 j hj
    have key := lp_ex (fun u x (N : Mm) => f_C_chanceAfter_d kc u o (nI f) (nI q) (nI n) (nI ac) (nI i) (nI x) N) (fun N' => f_C_chanceAfter_e kc FU o (nI f) (nI q) (nI n) (nI ac) (nI i) (nI 0) N') 10 (fun x N => (isV N (o + 35) c ∧ ∀ k, k < x → gL N (o + 36) k = lN 0) ∧ Fr (fun y => y = o + 35 ∨ y = o + 36) M N) (fun N => isV N (o + 35) c ∧ isV N (o + 36) (fun _ => 0) ∧ Fr (fun y => y = o + 35 ∨ y = o + 36) M N) (fun u x N hx hI => ?_) (fun u N hI => ?_) N ⟨⟨hN, fun k hk => by omega⟩, fN⟩ FU (FU_lt (by omega))
    · obtain ⟨N1, e1, g1, g2, g3⟩ := key
      obtain ⟨N2, e2, g4⟩ := acc N1 g1 g2 g3
      exact ⟨N2, e1.trans e2, g4⟩
    · obtain ⟨⟨k1, k2⟩, k3⟩ := hI
      refine ⟨sL N (o + 36) x (lN 0), ?_, ⟨k1.ne (by omega), fun k hk => ?_⟩, k3.sL (Or.inr rfl)⟩
      · simp (disch := omega) only [f_C_chanceAfter_d, lL0, bI_s, bV_s, bL_s, bR_s, bG_s, bG_n, bX_l, bX_r, ck_nI, nI_clamp, nI_leT, nI_leF, nI_ltT, nI_ltF, nI_eqF, nI_add, pk_mul, ofN, bt_e, or0, Nat.zero_add, Nat.add_zero, ↓reduceIte, if_true, if_false, Bool.false_eq_true, eq_self, li0, li1, li2, li3, li4, li5, li6, li7, li8, li9, li10, li11, li12, li14, li15, li16, li18, li19, li20, li23, li24, li25, li26, li27, li30, li31, li32, li36, li40, li41, li42, li43, li44, li45, li47, li48, li57, li59, li60, li91, li93, li96, li97, li100, li105, li122, li150, li200, li255, li400, li500, li600, li999, li1000, li1001, li2000, li2001, li2002, li2003, li2004, li2005, li2006, li32767, li100000, li_neg, li13, li17, li21, li22, li28, li29, li33, li34, li35, li37, li38, li39, li46, li49, li50, li51, li52, li53, li63, li80, li115, li160]
      · by_cases e : k = x
        · subst e; exact gL_same ..
        · rw [gL_ne (by omega)]; exact k2 k (by omega)
    · obtain ⟨⟨k1, k2⟩, k3⟩ := hI
      refine ⟨N, ?_, k1, k2, k3⟩
      simp (disch := omega) only [f_C_chanceAfter_d, bI_s, bV_s, bL_s, bR_s, bG_s, bG_n, bX_l, bX_r, ck_nI, nI_clamp, nI_leT, nI_leF, nI_ltT, nI_ltF, nI_eqF, nI_add, pk_mul, ofN, bt_e, or0, Nat.zero_add, Nat.add_zero, ↓reduceIte, if_true, if_false, Bool.false_eq_true, eq_self, li0, li1, li2, li3, li4, li5, li6, li7, li8, li9, li10, li11, li12, li14, li15, li16, li18, li19, li20, li23, li24, li25, li26, li27, li30, li31, li32, li36, li40, li41, li42, li43, li44, li45, li47, li48, li57, li59, li60, li91, li93, li96, li97, li100, li105, li122, li150, li200, li255, li400, li500, li600, li999, li1000, li1001, li2000, li2001, li2002, li2003, li2004, li2005, li2006, li32767, li100000, li_neg, li13, li17, li21, li22, li28, li29, li33, li34, li35, li37, li38, li39, li46, li49, li50, li51, li52, li53, li63, li80, li115, li160]
  have days : ∀ N : Mm, isV N (o + 35) (chV P q f 0) → Fr (fun y => y = o + 35 ∨ y = o + 36) M N → ∃ r, f_C_chanceAfter_c FU o (nI f) (nI q) (nI n) (nI ac) (nI 0) N = some r ∧ (r.1 = lN (chV P q f n ac) ∧ Fr (fun y => y = o + 35 ∨ y = o + 36) M r.2) := by
    intro N g1 g2
    refine lp_inv (R := Int64 × Mm) (fun u i (N : Mm) => f_C_chanceAfter_c u o (nI f) (nI q) (nI n) (nI ac) (nI i) N) n (fun i N => isV N (o + 35) (chV P q f i) ∧ Fr (fun y => y = o + 35 ∨ y = o + 36) M N) _ (fun u i N hi hI => ?_) (fun u N hI => ?_) 0 (by omega) N ⟨g1, g2⟩ FU (FU_lt (by omega))
    · obtain ⟨N', z1, z2, z3⟩ := dawn (f_C_chanceAfter_c u) i (chV P q f i) N hI.1 hI.2
      refine Or.inl ⟨N', ?_, z2, z3⟩
      rw [← z1]
      simp (disch := omega) only [f_C_chanceAfter_c, bI_s, bV_s, bL_s, bR_s, bG_s, bG_n, bX_l, bX_r, ck_nI, nI_clamp, nI_leT, nI_leF, nI_ltT, nI_ltF, nI_eqF, nI_add, pk_mul, ofN, bt_e, or0, Nat.zero_add, Nat.add_zero, ↓reduceIte, if_true, if_false, Bool.false_eq_true, eq_self, li0, li1, li2, li3, li4, li5, li6, li7, li8, li9, li10, li11, li12, li14, li15, li16, li18, li19, li20, li23, li24, li25, li26, li27, li30, li31, li32, li36, li40, li41, li42, li43, li44, li45, li47, li48, li57, li59, li60, li91, li93, li96, li97, li100, li105, li122, li150, li200, li255, li400, li500, li600, li999, li1000, li1001, li2000, li2001, li2002, li2003, li2004, li2005, li2006, li32767, li100000, li_neg, li13, li17, li21, li22, li28, li29, li33, li34, li35, li37, li38, li39, li46, li49, li50, li51, li52, li53, li63, li80, li115, li160]
    · refine ⟨(lN (chV P q f n ac), N), ?_, rfl, hI.2⟩
      simp (disch := omega) only [f_C_chanceAfter_c, hI.1 ac hac, bI_s, bV_s, bL_s, bR_s, bG_s, bG_n, bX_l, bX_r, ck_nI, nI_clamp, nI_leT, nI_leF, nI_ltT, nI_ltF, nI_eqF, nI_add, pk_mul, ofN, bt_e, or0, Nat.zero_add, Nat.add_zero, ↓reduceIte, if_true, if_false, Bool.false_eq_true, eq_self, li0, li1, li2, li3, li4, li5, li6, li7, li8, li9, li10, li11, li12, li14, li15, li16, li18, li19, li20, li23, li24, li25, li26, li27, li30, li31, li32, li36, li40, li41, li42, li43, li44, li45, li47, li48, li57, li59, li60, li91, li93, li96, li97, li100, li105, li122, li150, li200, li255, li400, li500, li600, li999, li1000, li1001, li2000, li2001, li2002, li2003, li2004, li2005, li2006, li32767, li100000, li_neg, li13, li17, li21, li22, li28, li29, li33, li34, li35, li37, li38, li39, li46, li49, li50, li51, li52, li53, li63, li80, li115, li160]
  have key := lp_ex (fun u x (N : Mm) => f_C_chanceAfter_b u o (nI f) (nI q) (nI n) (nI ac) (nI x) N) (fun N' => f_C_chanceAfter_c FU o (nI f) (nI q) (nI n) (nI ac) (nI 0) N') 10 (fun x N => (∀ k, k < x → gL N (o + 35) k = lN (chV P q f 0 k)) ∧ Fr (fun y => y = o + 35 ∨ y = o + 36) M N) (fun N => isV N (o + 35) (chV P q f 0) ∧ Fr (fun y => y = o + 35 ∨ y = o + 36) M N) (fun u x N hx hI => ?_) (fun u N hI => ?_) M ⟨fun k hk => by omega, Fr.rf _ _⟩ FU (FU_lt (by omega))
  · obtain ⟨N1, e1, g1, g2⟩ := key
    obtain ⟨⟨z, M'⟩, e2, e3, e4⟩ := days N1 g1 g2
    refine ⟨M', ?_, e4⟩
    dsimp only at e3
    rw [← e3, ← e2]; exact e1
  · obtain ⟨k1, k3⟩ := hI
    refine ⟨sL N (o + 35) x (lN (chV P q f 0 x)), ?_, fun k hk => ?_, k3.sL (Or.inl rfl)⟩
    · show _ = f_C_chanceAfter_b u o (nI f) (nI q) (nI n) (nI ac) (nI (x + 1)) (sL N (o + 35) x (lN (if x = f then 1 else 0)))
      by_cases e : x = f
      · subst e
        simp (disch := omega) only [f_C_chanceAfter_b, lL0, lL1, bI_s, bV_s, bL_s, bR_s, bG_s, bG_n, bX_l, bX_r, ck_nI, nI_clamp, nI_leT, nI_leF, nI_ltT, nI_ltF, nI_eqF, nI_add, pk_mul, ofN, bt_e, or0, Nat.zero_add, Nat.add_zero, ↓reduceIte, if_true, if_false, Bool.false_eq_true, eq_self, li0, li1, li2, li3, li4, li5, li6, li7, li8, li9, li10, li11, li12, li14, li15, li16, li18, li19, li20, li23, li24, li25, li26, li27, li30, li31, li32, li36, li40, li41, li42, li43, li44, li45, li47, li48, li57, li59, li60, li91, li93, li96, li97, li100, li105, li122, li150, li200, li255, li400, li500, li600, li999, li1000, li1001, li2000, li2001, li2002, li2003, li2004, li2005, li2006, li32767, li100000, li_neg, li13, li17, li21, li22, li28, li29, li33, li34, li35, li37, li38, li39, li46, li49, li50, li51, li52, li53, li63, li80, li115, li160]
      · simp (disch := omega) only [f_C_chanceAfter_b, lL0, lL1, e, bI_s, bV_s, bL_s, bR_s, bG_s, bG_n, bX_l, bX_r, ck_nI, nI_clamp, nI_leT, nI_leF, nI_ltT, nI_ltF, nI_eqF, nI_add, pk_mul, ofN, bt_e, or0, Nat.zero_add, Nat.add_zero, ↓reduceIte, if_true, if_false, Bool.false_eq_true, eq_self, li0, li1, li2, li3, li4, li5, li6, li7, li8, li9, li10, li11, li12, li14, li15, li16, li18, li19, li20, li23, li24, li25, li26, li27, li30, li31, li32, li36, li40, li41, li42, li43, li44, li45, li47, li48, li57, li59, li60, li91, li93, li96, li97, li100, li105, li122, li150, li200, li255, li400, li500, li600, li999, li1000, li1001, li2000, li2001, li2002, li2003, li2004, li2005, li2006, li32767, li100000, li_neg, li13, li17, li21, li22, li28, li29, li33, li34, li35, li37, li38, li39, li46, li49, li50, li51, li52, li53, li63, li80, li115, li160]
    · by_cases e : k = x
      · subst e; exact gL_same ..
      · rw [gL_ne (by omega)]; exact k1 k (by omega)
  · refine ⟨N, ?_, hI.1, hI.2⟩
    simp (disch := omega) only [f_C_chanceAfter_b, bI_s, bV_s, bL_s, bR_s, bG_s, bG_n, bX_l, bX_r, ck_nI, nI_clamp, nI_leT, nI_leF, nI_ltT, nI_ltF, nI_eqF, nI_add, pk_mul, ofN, bt_e, or0, Nat.zero_add, Nat.add_zero, ↓reduceIte, if_true, if_false, Bool.false_eq_true, eq_self, li0, li1, li2, li3, li4, li5, li6, li7, li8, li9, li10, li11, li12, li14, li15, li16, li18, li19, li20, li23, li24, li25, li26, li27, li30, li31, li32, li36, li40, li41, li42, li43, li44, li45, li47, li48, li57, li59, li60, li91, li93, li96, li97, li100, li105, li122, li150, li200, li255, li400, li500, li600, li999, li1000, li1001, li2000, li2001, li2002, li2003, li2004, li2005, li2006, li32767, li100000, li_neg, li13, li17, li21, li22, li28, li29, li33, li34, li35, li37, li38, li39, li46, li49, li50, li51, li52, li53, li63, li80, li115, li160]
end
