/-! # functional level, 9: what a law weighs -/
def ht (L : Nat → Nat) : Nat → Nat
  | 0 => 0
  | k + 1 => if L k < 2000 then ht L k + 1 else ht L k - 1
theorem ht_le (L : Nat → Nat) : ∀ k : Nat, ht L k ≤ k
  | 0 => Nat.le_refl _
  | k + 1 => by
    have := ht_le L k
    show (if L k < 2000 then ht L k + 1 else ht L k - 1) ≤ k + 1
    split <;> omega
/-- a law of n codes -/
def okK (n : Nat) (L : Nat → Nat) : Prop := n ≤ 150 ∧ ∀ k, k < n → ((L k < 1008 ∨ 2000 ≤ L k) ∧ L k ≤ 2006) ∧ (2000 ≤ L k → 2 ≤ ht L k)
theorem ht_pos {n : Nat} {L : Nat → Nat} (h : okK n L) {k : Nat} (hk : k < n) : 1 ≤ ht L (k + 1) := by
  show 1 ≤ (if L k < 2000 then ht L k + 1 else ht L k - 1)
  have := (h.2 k hk).2
  split
  · omega
  · next c => have := this (by omega); omega
def opv (c : Nat) (a b : Int32) : Int32 := if c = 2000 then a + b else if c = 2001 then a - b else if c = 2002 then a * b else if c = 2003 then (if b = nI 0 then nI 0 else a / b) else if c = 2004 then (if b = nI 0 then nI 0 else a - a / b * b) else if c = 2005 then mnI a b else mxI a b
def ev (L : Nat → Nat) (g : Nat → Int32) : Nat → Nat → Int32
  | 0 => fun _ => nI 0
  | k + 1 => fun j => if L k < 1000 then (if j = ht L k then nI (L k) else ev L g k j) else if L k < 2000 then (if j = ht L k then g (L k - 1000) else ev L g k j) else if j = ht L k - 2 then opv (L k) (ev L g k (ht L k - 2)) (ev L g k (ht L k - 1)) else ev L g k j
def isL (M : Mm) (l n : Nat) (L : Nat → Nat) : Prop := gI M l 2 = nI n ∧ ∀ k, k < n → gI M (l + 1) k = nI (L k)
theorem nI_w {h : Nat} (h1 : 1 ≤ h) : nI (h + 4294967295) = nI (h - 1) := by
  obtain ⟨k, rfl⟩ : ∃ k, h = k + 1 := ⟨h - 1, by omega⟩
  have e : k + 1 + 4294967295 = k + 4294967296 := by omega
  rw [e, ← nI_add]
  have : nI 4294967296 = 0 := by decide
  rw [this, Int32.add_zero]
  rfl
section
variable {M : Mm} {l n gv m : Nat} {L : Nat → Nat} {g : Nat → Int32}
theorem C_joined {c : Nat} (hc : 2000 ≤ c) (hc2 : c ≤ 2006) (a b : Int32) : f_Law_joined (nI c) a b M = some (opv c a b, M) := by
  obtain h | h | h | h | h | h | h : c = 2000 ∨ c = 2001 ∨ c = 2002 ∨ c = 2003 ∨ c = 2004 ∨ c = 2005 ∨ c = 2006 := by omega
  · subst h; rfl
  · subst h; rfl
  · subst h; rfl
  · subst h
    by_cases h0 : b = nI 0
    · subst h0
      simp (disch := omega) only [f_Law_joined, opv, nz, bI_s, bV_s, bL_s, bR_s, bG_s, bG_n, bX_l, bX_r, ck_nI, nI_clamp, nI_leT, nI_leF, nI_ltT, nI_ltF, nI_eqF, nI_add, pk_mul, ofN, bt_e, or0, Nat.zero_add, Nat.add_zero, ↓reduceIte, if_true, if_false, Bool.false_eq_true, eq_self, li0, li1, li2, li3, li4, li5, li6, li7, li8, li9, li10, li11, li12, li14, li15, li16, li18, li19, li20, li23, li24, li25, li26, li27, li30, li31, li32, li36, li40, li41, li42, li43, li44, li45, li47, li48, li57, li59, li60, li91, li93, li96, li97, li100, li105, li122, li150, li200, li255, li400, li500, li600, li999, li1000, li1001, li2000, li2001, li2002, li2003, li2004, li2005, li2006, li32767, li100000, li_neg, li13, li17, li21, li22, li28, li29, li33, li34, li35, li37, li38, li39, li46, li49, li50, li51, li52, li53, li63, li80, li115, li160, show ¬ (2003 = 2000) by omega, show ¬ (2003 = 2001) by omega, show ¬ (2003 = 2002) by omega]
    · simp (disch := omega) only [f_Law_joined, opv, nz, h0, bI_s, bV_s, bL_s, bR_s, bG_s, bG_n, bX_l, bX_r, ck_nI, nI_clamp, nI_leT, nI_leF, nI_ltT, nI_ltF, nI_eqF, nI_add, pk_mul, ofN, bt_e, or0, Nat.zero_add, Nat.add_zero, ↓reduceIte, if_true, if_false, Bool.false_eq_true, eq_self, li0, li1, li2, li3, li4, li5, li6, li7, li8, li9, li10, li11, li12, li14, li15, li16, li18, li19, li20, li23, li24, li25, li26, li27, li30, li31, li32, li36, li40, li41, li42, li43, li44, li45, li47, li48, li57, li59, li60, li91, li93, li96, li97, li100, li105, li122, li150, li200, li255, li400, li500, li600, li999, li1000, li1001, li2000, li2001, li2002, li2003, li2004, li2005, li2006, li32767, li100000, li_neg, li13, li17, li21, li22, li28, li29, li33, li34, li35, li37, li38, li39, li46, li49, li50, li51, li52, li53, li63, li80, li115, li160, show ¬ (2003 = 2000) by omega, show ¬ (2003 = 2001) by omega, show ¬ (2003 = 2002) by omega]
  · subst h
    by_cases h0 : b = nI 0
    · subst h0
      simp (disch := omega) only [f_Law_joined, opv, nz, bI_s, bV_s, bL_s, bR_s, bG_s, bG_n, bX_l, bX_r, ck_nI, nI_clamp, nI_leT, nI_leF, nI_ltT, nI_ltF, nI_eqF, nI_add, pk_mul, ofN, bt_e, or0, Nat.zero_add, Nat.add_zero, ↓reduceIte, if_true, if_false, Bool.false_eq_true, eq_self, li0, li1, li2, li3, li4, li5, li6, li7, li8, li9, li10, li11, li12, li14, li15, li16, li18, li19, li20, li23, li24, li25, li26, li27, li30, li31, li32, li36, li40, li41, li42, li43, li44, li45, li47, li48, li57, li59, li60, li91, li93, li96, li97, li100, li105, li122, li150, li200, li255, li400, li500, li600, li999, li1000, li1001, li2000, li2001, li2002, li2003, li2004, li2005, li2006, li32767, li100000, li_neg, li13, li17, li21, li22, li28, li29, li33, li34, li35, li37, li38, li39, li46, li49, li50, li51, li52, li53, li63, li80, li115, li160, show ¬ (2004 = 2000) by omega, show ¬ (2004 = 2001) by omega, show ¬ (2004 = 2002) by omega, show ¬ (2004 = 2003) by omega]
    · simp (disch := omega) only [f_Law_joined, opv, nz, h0, bI_s, bV_s, bL_s, bR_s, bG_s, bG_n, bX_l, bX_r, ck_nI, nI_clamp, nI_leT, nI_leF, nI_ltT, nI_ltF, nI_eqF, nI_add, pk_mul, ofN, bt_e, or0, Nat.zero_add, Nat.add_zero, ↓reduceIte, if_true, if_false, Bool.false_eq_true, eq_self, li0, li1, li2, li3, li4, li5, li6, li7, li8, li9, li10, li11, li12, li14, li15, li16, li18, li19, li20, li23, li24, li25, li26, li27, li30, li31, li32, li36, li40, li41, li42, li43, li44, li45, li47, li48, li57, li59, li60, li91, li93, li96, li97, li100, li105, li122, li150, li200, li255, li400, li500, li600, li999, li1000, li1001, li2000, li2001, li2002, li2003, li2004, li2005, li2006, li32767, li100000, li_neg, li13, li17, li21, li22, li28, li29, li33, li34, li35, li37, li38, li39, li46, li49, li50, li51, li52, li53, li63, li80, li115, li160, show ¬ (2004 = 2000) by omega, show ¬ (2004 = 2001) by omega, show ¬ (2004 = 2002) by omega, show ¬ (2004 = 2003) by omega]
  · subst h
    simp (disch := omega) only [f_Law_joined, opv, bI_s, bV_s, bL_s, bR_s, bG_s, bG_n, bX_l, bX_r, ck_nI, nI_clamp, nI_leT, nI_leF, nI_ltT, nI_ltF, nI_eqF, nI_add, pk_mul, ofN, bt_e, or0, Nat.zero_add, Nat.add_zero, ↓reduceIte, if_true, if_false, Bool.false_eq_true, eq_self, li0, li1, li2, li3, li4, li5, li6, li7, li8, li9, li10, li11, li12, li14, li15, li16, li18, li19, li20, li23, li24, li25, li26, li27, li30, li31, li32, li36, li40, li41, li42, li43, li44, li45, li47, li48, li57, li59, li60, li91, li93, li96, li97, li100, li105, li122, li150, li200, li255, li400, li500, li600, li999, li1000, li1001, li2000, li2001, li2002, li2003, li2004, li2005, li2006, li32767, li100000, li_neg, li13, li17, li21, li22, li28, li29, li33, li34, li35, li37, li38, li39, li46, li49, li50, li51, li52, li53, li63, li80, li115, li160, show ¬ (2005 = 2000) by omega, show ¬ (2005 = 2001) by omega, show ¬ (2005 = 2002) by omega, show ¬ (2005 = 2003) by omega, show ¬ (2005 = 2004) by omega]
  · subst h
    simp (disch := omega) only [f_Law_joined, opv, bI_s, bV_s, bL_s, bR_s, bG_s, bG_n, bX_l, bX_r, ck_nI, nI_clamp, nI_leT, nI_leF, nI_ltT, nI_ltF, nI_eqF, nI_add, pk_mul, ofN, bt_e, or0, Nat.zero_add, Nat.add_zero, ↓reduceIte, if_true, if_false, Bool.false_eq_true, eq_self, li0, li1, li2, li3, li4, li5, li6, li7, li8, li9, li10, li11, li12, li14, li15, li16, li18, li19, li20, li23, li24, li25, li26, li27, li30, li31, li32, li36, li40, li41, li42, li43, li44, li45, li47, li48, li57, li59, li60, li91, li93, li96, li97, li100, li105, li122, li150, li200, li255, li400, li500, li600, li999, li1000, li1001, li2000, li2001, li2002, li2003, li2004, li2005, li2006, li32767, li100000, li_neg, li13, li17, li21, li22, li28, li29, li33, li34, li35, li37, li38, li39, li46, li49, li50, li51, li52, li53, li63, li80, li115, li160, show ¬ (2006 = 2000) by omega, show ¬ (2006 = 2001) by omega, show ¬ (2006 = 2002) by omega, show ¬ (2006 = 2003) by omega, show ¬ (2006 = 2004) by omega, show ¬ (2006 = 2005) by omega]
theorem C_weigh (hL : isL M l n L) (oL : okK n L) (h1 : 1 ≤ n) (hg : ∀ j, j < 8 → gI M gv j = g j) (hd : gv ≠ l + 2) : ∃ M', f_Law_weigh l gv 8 M = some (ev L g n 0, M') ∧ Fr (fun x => x = l + 2) M M' := by
  have hn := oL.1
  have key := lp_inv (R := Int32 × Mm) (fun u i (s : Nat × Mm) => f_Law_weigh_b u l gv 8 (nI s.1) (nI i) s.2) n (fun i s => s.1 = ht L i ∧ (∀ j, j < ht L i → gI s.2 (l + 2) j = ev L g i j) ∧ Fr (fun x => x = l + 2) M s.2) (fun r => r.1 = ev L g n 0 ∧ Fr (fun x => x = l + 2) M r.2) (fun u i s hi hI => ?_) (fun u s hI => ?_) 0 (by omega) (0, M) ⟨rfl, fun j hj => by exact absurd hj (Nat.not_lt_zero _), Fr.rf _ _⟩ FU (FU_lt (by omega))
  · obtain ⟨⟨z, M'⟩, e, e1, e3⟩ := key
    exact ⟨M', by rw [← e1]; exact e, e3⟩
  · obtain ⟨t, N⟩ := s
    obtain ⟨e, h2, h3⟩ := hI
    dsimp only at e h2 h3 ⊢
    subst e
    obtain ⟨⟨q1, q2⟩, q3⟩ := oL.2 i hi
    have hle := ht_le L i
    have e1 : gI N l 2 = nI n := by rw [h3.i (show ¬ l = l + 2 by omega)]; exact hL.1
    have e2 : gI N (l + 1) i = nI (L i) := by rw [h3.i (show ¬ l + 1 = l + 2 by omega)]; exact hL.2 i hi
    refine Or.inl ?_
    rcases Nat.lt_or_ge (L i) 1000 with c | c
    · refine ⟨(ht L i + 1, sI N (l + 2) (ht L i) (nI (L i))), ?_, ?_, fun j hj => ?_, h3.sI rfl⟩
      · simp (disch := omega) only [f_Law_weigh_b, e1, e2, bI_s, bV_s, bL_s, bR_s, bG_s, bG_n, bX_l, bX_r, ck_nI, nI_clamp, nI_leT, nI_leF, nI_ltT, nI_ltF, nI_eqF, nI_add, pk_mul, ofN, bt_e, or0, Nat.zero_add, Nat.add_zero, ↓reduceIte, if_true, if_false, Bool.false_eq_true, eq_self, li0, li1, li2, li3, li4, li5, li6, li7, li8, li9, li10, li11, li12, li14, li15, li16, li18, li19, li20, li23, li24, li25, li26, li27, li30, li31, li32, li36, li40, li41, li42, li43, li44, li45, li47, li48, li57, li59, li60, li91, li93, li96, li97, li100, li105, li122, li150, li200, li255, li400, li500, li600, li999, li1000, li1001, li2000, li2001, li2002, li2003, li2004, li2005, li2006, li32767, li100000, li_neg, li13, li17, li21, li22, li28, li29, li33, li34, li35, li37, li38, li39, li46, li49, li50, li51, li52, li53, li63, li80, li115, li160]
      · show ht L i + 1 = (if L i < 2000 then ht L i + 1 else ht L i - 1)
        rw [if_pos (by omega)]
      · have hj' : j < ht L i + 1 := by
          have : j < (if L i < 2000 then ht L i + 1 else ht L i - 1) := hj
          rw [if_pos (by omega)] at this; exact this
        show gI _ _ _ = (if L i < 1000 then (if j = ht L i then nI (L i) else ev L g i j) else _)
        rw [if_pos c]
        by_cases cj : j = ht L i
        · rw [if_pos cj, gI_eq2 rfl cj]
        · rw [if_neg cj, gI_ne (by omega)]; exact h2 j (by omega)
    · rcases Nat.lt_or_ge (L i) 2000 with c2 | c2
      · have e3 : gI N gv (L i - 1000) = g (L i - 1000) := by rw [h3.i (show ¬ gv = l + 2 from hd)]; exact hg _ (by omega)
        refine ⟨(ht L i + 1, sI N (l + 2) (ht L i) (g (L i - 1000))), ?_, ?_, fun j hj => ?_, h3.sI rfl⟩
        · simp (disch := omega) only [f_Law_weigh_b, e1, e2, e3, pk_sub, bI_s, bV_s, bL_s, bR_s, bG_s, bG_n, bX_l, bX_r, ck_nI, nI_clamp, nI_leT, nI_leF, nI_ltT, nI_ltF, nI_eqF, nI_add, pk_mul, ofN, bt_e, or0, Nat.zero_add, Nat.add_zero, ↓reduceIte, if_true, if_false, Bool.false_eq_true, eq_self, li0, li1, li2, li3, li4, li5, li6, li7, li8, li9, li10, li11, li12, li14, li15, li16, li18, li19, li20, li23, li24, li25, li26, li27, li30, li31, li32, li36, li40, li41, li42, li43, li44, li45, li47, li48, li57, li59, li60, li91, li93, li96, li97, li100, li105, li122, li150, li200, li255, li400, li500, li600, li999, li1000, li1001, li2000, li2001, li2002, li2003, li2004, li2005, li2006, li32767, li100000, li_neg, li13, li17, li21, li22, li28, li29, li33, li34, li35, li37, li38, li39, li46, li49, li50, li51, li52, li53, li63, li80, li115, li160]
        · show ht L i + 1 = (if L i < 2000 then ht L i + 1 else ht L i - 1)
          rw [if_pos (by omega)]
        · have hj' : j < ht L i + 1 := by
            have : j < (if L i < 2000 then ht L i + 1 else ht L i - 1) := hj
            rw [if_pos (by omega)] at this; exact this
          show gI _ _ _ = (if L i < 1000 then _ else if L i < 2000 then (if j = ht L i then g (L i - 1000) else ev L g i j) else _)
          rw [if_neg (by omega), if_pos c2]
          by_cases cj : j = ht L i
          · rw [if_pos cj, gI_eq2 rfl cj]
          · rw [if_neg cj, gI_ne (by omega)]; exact h2 j (by omega)
      · have q4 := q3 c2
        refine ⟨(ht L i - 1, sI N (l + 2) (ht L i - 2) (opv (L i) (ev L g i (ht L i - 2)) (ev L g i (ht L i - 1)))), ?_, ?_, fun j hj => ?_, h3.sI rfl⟩
        · have e5 : ht L i - 1 - 1 = ht L i - 2 := by omega
          simp (disch := omega) only [f_Law_weigh_b, e1, e2, pk_sub, nI_w, e5, h2, C_joined, bI_s, bV_s, bL_s, bR_s, bG_s, bG_n, bX_l, bX_r, ck_nI, nI_clamp, nI_leT, nI_leF, nI_ltT, nI_ltF, nI_eqF, nI_add, pk_mul, ofN, bt_e, or0, Nat.zero_add, Nat.add_zero, ↓reduceIte, if_true, if_false, Bool.false_eq_true, eq_self, li0, li1, li2, li3, li4, li5, li6, li7, li8, li9, li10, li11, li12, li14, li15, li16, li18, li19, li20, li23, li24, li25, li26, li27, li30, li31, li32, li36, li40, li41, li42, li43, li44, li45, li47, li48, li57, li59, li60, li91, li93, li96, li97, li100, li105, li122, li150, li200, li255, li400, li500, li600, li999, li1000, li1001, li2000, li2001, li2002, li2003, li2004, li2005, li2006, li32767, li100000, li_neg, li13, li17, li21, li22, li28, li29, li33, li34, li35, li37, li38, li39, li46, li49, li50, li51, li52, li53, li63, li80, li115, li160]
        · show ht L i - 1 = (if L i < 2000 then ht L i + 1 else ht L i - 1)
          rw [if_neg (by omega)]
        · have hj' : j < ht L i - 1 := by
            have : j < (if L i < 2000 then ht L i + 1 else ht L i - 1) := hj
            rw [if_neg (by omega)] at this; exact this
          show gI _ _ _ = (if L i < 1000 then _ else if L i < 2000 then _ else if j = ht L i - 2 then opv (L i) (ev L g i (ht L i - 2)) (ev L g i (ht L i - 1)) else ev L g i j)
          rw [if_neg (by omega), if_neg (by omega)]
          by_cases cj : j = ht L i - 2
          · rw [if_pos cj, gI_eq2 rfl cj]
          · rw [if_neg cj, gI_ne (by omega)]; exact h2 j (by omega)
  · obtain ⟨t, N⟩ := s
    obtain ⟨e, h2, h3⟩ := hI
    dsimp only at e h2 h3 ⊢
    subst e
    have e1 : gI N l 2 = nI n := by rw [h3.i (show ¬ l = l + 2 by omega)]; exact hL.1
    have hp : 1 ≤ ht L n := by
      obtain ⟨k, rfl⟩ : ∃ k, n = k + 1 := ⟨n - 1, by omega⟩
      exact ht_pos oL (by omega)
    refine ⟨(ev L g n 0, N), ?_, rfl, h3⟩
    simp (disch := omega) only [f_Law_weigh_b, e1, h2, bI_s, bV_s, bL_s, bR_s, bG_s, bG_n, bX_l, bX_r, ck_nI, nI_clamp, nI_leT, nI_leF, nI_ltT, nI_ltF, nI_eqF, nI_add, pk_mul, ofN, bt_e, or0, Nat.zero_add, Nat.add_zero, ↓reduceIte, if_true, if_false, Bool.false_eq_true, eq_self, li0, li1, li2, li3, li4, li5, li6, li7, li8, li9, li10, li11, li12, li14, li15, li16, li18, li19, li20, li23, li24, li25, li26, li27, li30, li31, li32, li36, li40, li41, li42, li43, li44, li45, li47, li48, li57, li59, li60, li91, li93, li96, li97, li100, li105, li122, li150, li200, li255, li400, li500, li600, li999, li1000, li1001, li2000, li2001, li2002, li2003, li2004, li2005, li2006, li32767, li100000, li_neg, li13, li17, li21, li22, li28, li29, li33, li34, li35, li37, li38, li39, li46, li49, li50, li51, li52, li53, li63, li80, li115, li160]
/-! the model's -/
def lk (c : Nat) : Nat := if c < 1000 then 0 else if c < 2000 then 1 else c - 1998
def lv (c : Nat) : Nat := if c < 1000 then c else if c < 2000 then c - 1000 else 0
def isK (M : Mm) (m n : Nat) (L : Nat → Nat) : Prop := gI M m 23 = nI n ∧ ∀ k, k < n → gI M (m + 43 + 1 + k) 0 = nI (lk (L k)) ∧ gI M (m + 43 + 1 + k) 1 = nI (lv (L k))
theorem div_m1 (a : Int32) : a / nI 4294967295 = -a := by
  apply Int32.toInt_inj.mp
  rw [Int32.toInt_div, Int32.toInt_neg]
  have : (nI 4294967295).toInt = -1 := by decide
  rw [this, Int.tdiv_neg, Int.tdiv_one]
theorem rem_m1 (a : Int32) : a - a / nI 4294967295 * nI 4294967295 = nI 0 := by
  rw [div_m1]
  have : nI 4294967295 = -1 := by decide
  rw [this, Int32.mul_neg, Int32.mul_one, Int32.neg_neg, Int32.sub_self]
  rfl
theorem lessI (a b : Int32) : f_M_less a b M = some (mnI a b, M) := by
  unfold f_M_less mnI
  by_cases h : b ≤ a
  · rw [if_pos h]
    by_cases h2 : b < a
    · rw [if_pos h2]
    · rw [if_neg h2]
      have : a = b := Int32.le_antisymm (Int32.not_lt.mp h2) h
      rw [this]
  · rw [if_neg h, if_neg (fun h2 => h (Int32.le_of_lt h2))]
theorem moreI (a b : Int32) : f_M_more a b M = some (mxI a b, M) := by
  unfold f_M_more mxI
  by_cases h : a ≤ b
  · rw [if_pos h]
    by_cases h2 : a < b
    · rw [if_pos h2]
    · rw [if_neg h2]
      have : a = b := Int32.le_antisymm h (Int32.not_lt.mp h2)
      rw [this]
  · rw [if_neg h, if_neg (fun h2 => h (Int32.le_of_lt h2))]
theorem M_by {c : Nat} (hc : 2000 ≤ c) (hc2 : c ≤ 2006) (a b : Int32) : f_M_by (nI (c - 1998)) a b M = some (opv c a b, M) := by
  obtain h | h | h | h | h | h | h : c = 2000 ∨ c = 2001 ∨ c = 2002 ∨ c = 2003 ∨ c = 2004 ∨ c = 2005 ∨ c = 2006 := by omega
  · subst h; rfl
  · subst h; rfl
  · subst h; rfl
  · subst h
    by_cases h0 : b = nI 0
    · subst h0
      simp (disch := omega) only [f_M_by, opv, nz, bI_s, bV_s, bL_s, bR_s, bG_s, bG_n, bX_l, bX_r, ck_nI, nI_clamp, nI_leT, nI_leF, nI_ltT, nI_ltF, nI_eqF, nI_add, pk_mul, ofN, bt_e, or0, Nat.zero_add, Nat.add_zero, ↓reduceIte, if_true, if_false, Bool.false_eq_true, eq_self, li0, li1, li2, li3, li4, li5, li6, li7, li8, li9, li10, li11, li12, li14, li15, li16, li18, li19, li20, li23, li24, li25, li26, li27, li30, li31, li32, li36, li40, li41, li42, li43, li44, li45, li47, li48, li57, li59, li60, li91, li93, li96, li97, li100, li105, li122, li150, li200, li255, li400, li500, li600, li999, li1000, li1001, li2000, li2001, li2002, li2003, li2004, li2005, li2006, li32767, li100000, li_neg, li13, li17, li21, li22, li28, li29, li33, li34, li35, li37, li38, li39, li46, li49, li50, li51, li52, li53, li63, li80, li115, li160, show 2003 - 1998 = 5 by rfl, show ¬ (2003 = 2000) by omega, show ¬ (2003 = 2001) by omega, show ¬ (2003 = 2002) by omega]
    · by_cases h3 : b = nI 4294967295
      · subst h3
        simp (disch := omega) only [f_M_by, opv, nz, bI_s, bV_s, bL_s, bR_s, bG_s, bG_n, bX_l, bX_r, ck_nI, nI_clamp, nI_leT, nI_leF, nI_ltT, nI_ltF, nI_eqF, nI_add, pk_mul, ofN, bt_e, or0, Nat.zero_add, Nat.add_zero, ↓reduceIte, if_true, if_false, Bool.false_eq_true, eq_self, li0, li1, li2, li3, li4, li5, li6, li7, li8, li9, li10, li11, li12, li14, li15, li16, li18, li19, li20, li23, li24, li25, li26, li27, li30, li31, li32, li36, li40, li41, li42, li43, li44, li45, li47, li48, li57, li59, li60, li91, li93, li96, li97, li100, li105, li122, li150, li200, li255, li400, li500, li600, li999, li1000, li1001, li2000, li2001, li2002, li2003, li2004, li2005, li2006, li32767, li100000, li_neg, li13, li17, li21, li22, li28, li29, li33, li34, li35, li37, li38, li39, li46, li49, li50, li51, li52, li53, li63, li80, li115, li160, div_m1, rem_m1, show 2003 - 1998 = 5 by rfl, show ¬ (2003 = 2000) by omega, show ¬ (2003 = 2001) by omega, show ¬ (2003 = 2002) by omega]
      · simp (disch := omega) only [f_M_by, opv, nz, h0, h3, bI_s, bV_s, bL_s, bR_s, bG_s, bG_n, bX_l, bX_r, ck_nI, nI_clamp, nI_leT, nI_leF, nI_ltT, nI_ltF, nI_eqF, nI_add, pk_mul, ofN, bt_e, or0, Nat.zero_add, Nat.add_zero, ↓reduceIte, if_true, if_false, Bool.false_eq_true, eq_self, li0, li1, li2, li3, li4, li5, li6, li7, li8, li9, li10, li11, li12, li14, li15, li16, li18, li19, li20, li23, li24, li25, li26, li27, li30, li31, li32, li36, li40, li41, li42, li43, li44, li45, li47, li48, li57, li59, li60, li91, li93, li96, li97, li100, li105, li122, li150, li200, li255, li400, li500, li600, li999, li1000, li1001, li2000, li2001, li2002, li2003, li2004, li2005, li2006, li32767, li100000, li_neg, li13, li17, li21, li22, li28, li29, li33, li34, li35, li37, li38, li39, li46, li49, li50, li51, li52, li53, li63, li80, li115, li160, show 2003 - 1998 = 5 by rfl, show ¬ (2003 = 2000) by omega, show ¬ (2003 = 2001) by omega, show ¬ (2003 = 2002) by omega]
  · subst h
    by_cases h0 : b = nI 0
    · subst h0
      simp (disch := omega) only [f_M_by, opv, nz, bI_s, bV_s, bL_s, bR_s, bG_s, bG_n, bX_l, bX_r, ck_nI, nI_clamp, nI_leT, nI_leF, nI_ltT, nI_ltF, nI_eqF, nI_add, pk_mul, ofN, bt_e, or0, Nat.zero_add, Nat.add_zero, ↓reduceIte, if_true, if_false, Bool.false_eq_true, eq_self, li0, li1, li2, li3, li4, li5, li6, li7, li8, li9, li10, li11, li12, li14, li15, li16, li18, li19, li20, li23, li24, li25, li26, li27, li30, li31, li32, li36, li40, li41, li42, li43, li44, li45, li47, li48, li57, li59, li60, li91, li93, li96, li97, li100, li105, li122, li150, li200, li255, li400, li500, li600, li999, li1000, li1001, li2000, li2001, li2002, li2003, li2004, li2005, li2006, li32767, li100000, li_neg, li13, li17, li21, li22, li28, li29, li33, li34, li35, li37, li38, li39, li46, li49, li50, li51, li52, li53, li63, li80, li115, li160, show 2004 - 1998 = 6 by rfl, show ¬ (2004 = 2000) by omega, show ¬ (2004 = 2001) by omega, show ¬ (2004 = 2002) by omega, show ¬ (2004 = 2003) by omega]
    · by_cases h3 : b = nI 4294967295
      · subst h3
        simp (disch := omega) only [f_M_by, opv, nz, bI_s, bV_s, bL_s, bR_s, bG_s, bG_n, bX_l, bX_r, ck_nI, nI_clamp, nI_leT, nI_leF, nI_ltT, nI_ltF, nI_eqF, nI_add, pk_mul, ofN, bt_e, or0, Nat.zero_add, Nat.add_zero, ↓reduceIte, if_true, if_false, Bool.false_eq_true, eq_self, li0, li1, li2, li3, li4, li5, li6, li7, li8, li9, li10, li11, li12, li14, li15, li16, li18, li19, li20, li23, li24, li25, li26, li27, li30, li31, li32, li36, li40, li41, li42, li43, li44, li45, li47, li48, li57, li59, li60, li91, li93, li96, li97, li100, li105, li122, li150, li200, li255, li400, li500, li600, li999, li1000, li1001, li2000, li2001, li2002, li2003, li2004, li2005, li2006, li32767, li100000, li_neg, li13, li17, li21, li22, li28, li29, li33, li34, li35, li37, li38, li39, li46, li49, li50, li51, li52, li53, li63, li80, li115, li160, rem_m1, show 2004 - 1998 = 6 by rfl, show ¬ (2004 = 2000) by omega, show ¬ (2004 = 2001) by omega, show ¬ (2004 = 2002) by omega, show ¬ (2004 = 2003) by omega]
      · simp (disch := omega) only [f_M_by, opv, nz, h0, h3, bI_s, bV_s, bL_s, bR_s, bG_s, bG_n, bX_l, bX_r, ck_nI, nI_clamp, nI_leT, nI_leF, nI_ltT, nI_ltF, nI_eqF, nI_add, pk_mul, ofN, bt_e, or0, Nat.zero_add, Nat.add_zero, ↓reduceIte, if_true, if_false, Bool.false_eq_true, eq_self, li0, li1, li2, li3, li4, li5, li6, li7, li8, li9, li10, li11, li12, li14, li15, li16, li18, li19, li20, li23, li24, li25, li26, li27, li30, li31, li32, li36, li40, li41, li42, li43, li44, li45, li47, li48, li57, li59, li60, li91, li93, li96, li97, li100, li105, li122, li150, li200, li255, li400, li500, li600, li999, li1000, li1001, li2000, li2001, li2002, li2003, li2004, li2005, li2006, li32767, li100000, li_neg, li13, li17, li21, li22, li28, li29, li33, li34, li35, li37, li38, li39, li46, li49, li50, li51, li52, li53, li63, li80, li115, li160, show 2004 - 1998 = 6 by rfl, show ¬ (2004 = 2000) by omega, show ¬ (2004 = 2001) by omega, show ¬ (2004 = 2002) by omega, show ¬ (2004 = 2003) by omega]
  · subst h
    simp (disch := omega) only [f_M_by, opv, lessI, bI_s, bV_s, bL_s, bR_s, bG_s, bG_n, bX_l, bX_r, ck_nI, nI_clamp, nI_leT, nI_leF, nI_ltT, nI_ltF, nI_eqF, nI_add, pk_mul, ofN, bt_e, or0, Nat.zero_add, Nat.add_zero, ↓reduceIte, if_true, if_false, Bool.false_eq_true, eq_self, li0, li1, li2, li3, li4, li5, li6, li7, li8, li9, li10, li11, li12, li14, li15, li16, li18, li19, li20, li23, li24, li25, li26, li27, li30, li31, li32, li36, li40, li41, li42, li43, li44, li45, li47, li48, li57, li59, li60, li91, li93, li96, li97, li100, li105, li122, li150, li200, li255, li400, li500, li600, li999, li1000, li1001, li2000, li2001, li2002, li2003, li2004, li2005, li2006, li32767, li100000, li_neg, li13, li17, li21, li22, li28, li29, li33, li34, li35, li37, li38, li39, li46, li49, li50, li51, li52, li53, li63, li80, li115, li160, show 2005 - 1998 = 7 by rfl, show ¬ (2005 = 2000) by omega, show ¬ (2005 = 2001) by omega, show ¬ (2005 = 2002) by omega, show ¬ (2005 = 2003) by omega, show ¬ (2005 = 2004) by omega]
  · subst h
    simp (disch := omega) only [f_M_by, opv, moreI, bI_s, bV_s, bL_s, bR_s, bG_s, bG_n, bX_l, bX_r, ck_nI, nI_clamp, nI_leT, nI_leF, nI_ltT, nI_ltF, nI_eqF, nI_add, pk_mul, ofN, bt_e, or0, Nat.zero_add, Nat.add_zero, ↓reduceIte, if_true, if_false, Bool.false_eq_true, eq_self, li0, li1, li2, li3, li4, li5, li6, li7, li8, li9, li10, li11, li12, li14, li15, li16, li18, li19, li20, li23, li24, li25, li26, li27, li30, li31, li32, li36, li40, li41, li42, li43, li44, li45, li47, li48, li57, li59, li60, li91, li93, li96, li97, li100, li105, li122, li150, li200, li255, li400, li500, li600, li999, li1000, li1001, li2000, li2001, li2002, li2003, li2004, li2005, li2006, li32767, li100000, li_neg, li13, li17, li21, li22, li28, li29, li33, li34, li35, li37, li38, li39, li46, li49, li50, li51, li52, li53, li63, li80, li115, li160, show 2006 - 1998 = 8 by rfl, show ¬ (2006 = 2000) by omega, show ¬ (2006 = 2001) by omega, show ¬ (2006 = 2002) by omega, show ¬ (2006 = 2003) by omega, show ¬ (2006 = 2004) by omega, show ¬ (2006 = 2005) by omega]
/-- what a law weighs: the plain one has no codes -/
def wg (n : Nat) (L : Nat → Nat) (g : Nat → Int32) : Int32 := if n = 0 then nI 10 * g 0 + g 1 else ev L g n 0
theorem M_byLaw (hK : isK M m n L) (oL : okK n L) (hg : ∀ j, j < 8 → gI M (m + 388) j = g j) : ∃ M', f_M_byLaw m M = some (wg n L g, M') ∧ Fr (fun x => x = m + 387) M M' := by
  have hn := oL.1
  have key := lp_inv (R := Int32 × Mm) (fun u i (s : Nat × Mm) => f_M_byLaw_b u m (nI s.1) (nI i) s.2) n (fun i s => s.1 = ht L i ∧ ((∀ j, j < ht L i → gI s.2 (m + 387) j = ev L g i j) ∧ (i = 0 → gI s.2 (m + 387) 0 = nI 10 * g 0 + g 1)) ∧ Fr (fun x => x = m + 387) M s.2) (fun r => r.1 = wg n L g ∧ Fr (fun x => x = m + 387) M r.2) (fun u i s hi hI => ?_) (fun u s hI => ?_) 0 (by omega) (0, sI M (m + 387) 0 (nI 10 * g 0 + g 1)) ⟨rfl, ⟨fun j hj => by exact absurd hj (Nat.not_lt_zero _), fun _ => gI_same ..⟩, (Fr.rf _ _).sI rfl⟩ FU (FU_lt (by omega))
  · obtain ⟨⟨z, M'⟩, e, e1, e3⟩ := key
    refine ⟨M', ?_, e3⟩
    rw [← e1, ← e]
    simp (disch := omega) only [f_M_byLaw, hg, bI_s, bV_s, bL_s, bR_s, bG_s, bG_n, bX_l, bX_r, ck_nI, nI_clamp, nI_leT, nI_leF, nI_ltT, nI_ltF, nI_eqF, nI_add, pk_mul, ofN, bt_e, or0, Nat.zero_add, Nat.add_zero, ↓reduceIte, if_true, if_false, Bool.false_eq_true, eq_self, li0, li1, li2, li3, li4, li5, li6, li7, li8, li9, li10, li11, li12, li14, li15, li16, li18, li19, li20, li23, li24, li25, li26, li27, li30, li31, li32, li36, li40, li41, li42, li43, li44, li45, li47, li48, li57, li59, li60, li91, li93, li96, li97, li100, li105, li122, li150, li200, li255, li400, li500, li600, li999, li1000, li1001, li2000, li2001, li2002, li2003, li2004, li2005, li2006, li32767, li100000, li_neg, li13, li17, li21, li22, li28, li29, li33, li34, li35, li37, li38, li39, li46, li49, li50, li51, li52, li53, li63, li80, li115, li160]
  · obtain ⟨t, N⟩ := s
    obtain ⟨e, ⟨h2, _⟩, h3⟩ := hI
    dsimp only at e h2 h3 ⊢
    subst e
    obtain ⟨⟨q1, q2⟩, q3⟩ := oL.2 i hi
    have hle := ht_le L i
    have e1 : gI N m 23 = nI n := by rw [h3.i (show ¬ m = m + 387 by omega)]; exact hK.1
    have e2 : gI N (m + 43 + 1 + i) 0 = nI (lk (L i)) := by rw [h3.i (show ¬ m + 43 + 1 + i = m + 387 by omega)]; exact (hK.2 i hi).1
    have e3 : gI N (m + 43 + 1 + i) 1 = nI (lv (L i)) := by rw [h3.i (show ¬ m + 43 + 1 + i = m + 387 by omega)]; exact (hK.2 i hi).2
    refine Or.inl ?_
    rcases Nat.lt_or_ge (L i) 1000 with c | c
    · have z1 : lk (L i) = 0 := if_pos c
      have z2 : lv (L i) = L i := if_pos c
      rw [z1] at e2
      rw [z2] at e3
      refine ⟨(ht L i + 1, sI N (m + 387) (ht L i) (nI (L i))), ?_, ?_, ⟨fun j hj => ?_, fun h => nomatch h⟩, h3.sI rfl⟩
      · simp (disch := omega) only [f_M_byLaw_b, e1, e2, e3, bI_s, bV_s, bL_s, bR_s, bG_s, bG_n, bX_l, bX_r, ck_nI, nI_clamp, nI_leT, nI_leF, nI_ltT, nI_ltF, nI_eqF, nI_add, pk_mul, ofN, bt_e, or0, Nat.zero_add, Nat.add_zero, ↓reduceIte, if_true, if_false, Bool.false_eq_true, eq_self, li0, li1, li2, li3, li4, li5, li6, li7, li8, li9, li10, li11, li12, li14, li15, li16, li18, li19, li20, li23, li24, li25, li26, li27, li30, li31, li32, li36, li40, li41, li42, li43, li44, li45, li47, li48, li57, li59, li60, li91, li93, li96, li97, li100, li105, li122, li150, li200, li255, li400, li500, li600, li999, li1000, li1001, li2000, li2001, li2002, li2003, li2004, li2005, li2006, li32767, li100000, li_neg, li13, li17, li21, li22, li28, li29, li33, li34, li35, li37, li38, li39, li46, li49, li50, li51, li52, li53, li63, li80, li115, li160]
      · show ht L i + 1 = (if L i < 2000 then ht L i + 1 else ht L i - 1)
        rw [if_pos (by omega)]
      · have hj' : j < ht L i + 1 := by
          have : j < (if L i < 2000 then ht L i + 1 else ht L i - 1) := hj
          rw [if_pos (by omega)] at this; exact this
        show gI _ _ _ = (if L i < 1000 then (if j = ht L i then nI (L i) else ev L g i j) else _)
        rw [if_pos c]
        by_cases cj : j = ht L i
        · rw [if_pos cj, gI_eq2 rfl cj]
        · rw [if_neg cj, gI_ne (by omega)]; exact h2 j (by omega)
    · rcases Nat.lt_or_ge (L i) 2000 with c2 | c2
      · have z1 : lk (L i) = 1 := by unfold lk; rw [if_neg (by omega), if_pos c2]
        have z2 : lv (L i) = L i - 1000 := by unfold lv; rw [if_neg (by omega), if_pos c2]
        rw [z1] at e2
        rw [z2] at e3
        have e4 : gI N (m + 388) (L i - 1000) = g (L i - 1000) := by rw [h3.i (show ¬ m + 388 = m + 387 by omega)]; exact hg _ (by omega)
        refine ⟨(ht L i + 1, sI N (m + 387) (ht L i) (g (L i - 1000))), ?_, ?_, ⟨fun j hj => ?_, fun h => nomatch h⟩, h3.sI rfl⟩
        · simp (disch := omega) only [f_M_byLaw_b, e1, e2, e3, e4, bI_s, bV_s, bL_s, bR_s, bG_s, bG_n, bX_l, bX_r, ck_nI, nI_clamp, nI_leT, nI_leF, nI_ltT, nI_ltF, nI_eqF, nI_add, pk_mul, ofN, bt_e, or0, Nat.zero_add, Nat.add_zero, ↓reduceIte, if_true, if_false, Bool.false_eq_true, eq_self, li0, li1, li2, li3, li4, li5, li6, li7, li8, li9, li10, li11, li12, li14, li15, li16, li18, li19, li20, li23, li24, li25, li26, li27, li30, li31, li32, li36, li40, li41, li42, li43, li44, li45, li47, li48, li57, li59, li60, li91, li93, li96, li97, li100, li105, li122, li150, li200, li255, li400, li500, li600, li999, li1000, li1001, li2000, li2001, li2002, li2003, li2004, li2005, li2006, li32767, li100000, li_neg, li13, li17, li21, li22, li28, li29, li33, li34, li35, li37, li38, li39, li46, li49, li50, li51, li52, li53, li63, li80, li115, li160]
        · show ht L i + 1 = (if L i < 2000 then ht L i + 1 else ht L i - 1)
          rw [if_pos (by omega)]
        · have hj' : j < ht L i + 1 := by
            have : j < (if L i < 2000 then ht L i + 1 else ht L i - 1) := hj
            rw [if_pos (by omega)] at this; exact this
          show gI _ _ _ = (if L i < 1000 then _ else if L i < 2000 then (if j = ht L i then g (L i - 1000) else ev L g i j) else _)
          rw [if_neg (by omega), if_pos c2]
          by_cases cj : j = ht L i
          · rw [if_pos cj, gI_eq2 rfl cj]
          · rw [if_neg cj, gI_ne (by omega)]; exact h2 j (by omega)
      · have q4 := q3 c2
        have z1 : lk (L i) = L i - 1998 := by unfold lk; rw [if_neg (by omega), if_neg (by omega)]
        rw [z1] at e2
        refine ⟨(ht L i - 1, sI N (m + 387) (ht L i - 2) (opv (L i) (ev L g i (ht L i - 2)) (ev L g i (ht L i - 1)))), ?_, ?_, ⟨fun j hj => ?_, fun h => nomatch h⟩, h3.sI rfl⟩
        · have e5 : ht L i - 1 - 1 = ht L i - 2 := by omega
          simp (disch := omega) only [f_M_byLaw_b, e1, e2, pk_sub, nI_w, e5, h2, M_by, bI_s, bV_s, bL_s, bR_s, bG_s, bG_n, bX_l, bX_r, ck_nI, nI_clamp, nI_leT, nI_leF, nI_ltT, nI_ltF, nI_eqF, nI_add, pk_mul, ofN, bt_e, or0, Nat.zero_add, Nat.add_zero, ↓reduceIte, if_true, if_false, Bool.false_eq_true, eq_self, li0, li1, li2, li3, li4, li5, li6, li7, li8, li9, li10, li11, li12, li14, li15, li16, li18, li19, li20, li23, li24, li25, li26, li27, li30, li31, li32, li36, li40, li41, li42, li43, li44, li45, li47, li48, li57, li59, li60, li91, li93, li96, li97, li100, li105, li122, li150, li200, li255, li400, li500, li600, li999, li1000, li1001, li2000, li2001, li2002, li2003, li2004, li2005, li2006, li32767, li100000, li_neg, li13, li17, li21, li22, li28, li29, li33, li34, li35, li37, li38, li39, li46, li49, li50, li51, li52, li53, li63, li80, li115, li160]
        · show ht L i - 1 = (if L i < 2000 then ht L i + 1 else ht L i - 1)
          rw [if_neg (by omega)]
        · have hj' : j < ht L i - 1 := by
            have : j < (if L i < 2000 then ht L i + 1 else ht L i - 1) := hj
            rw [if_neg (by omega)] at this; exact this
          show gI _ _ _ = (if L i < 1000 then _ else if L i < 2000 then _ else if j = ht L i - 2 then opv (L i) (ev L g i (ht L i - 2)) (ev L g i (ht L i - 1)) else ev L g i j)
          rw [if_neg (by omega), if_neg (by omega)]
          by_cases cj : j = ht L i - 2
          · rw [if_pos cj, gI_eq2 rfl cj]
          · rw [if_neg cj, gI_ne (by omega)]; exact h2 j (by omega)
  · obtain ⟨t, N⟩ := s
    obtain ⟨e, ⟨h2, h4⟩, h3⟩ := hI
    dsimp only at e h2 h3 h4 ⊢
    subst e
    have e1 : gI N m 23 = nI n := by rw [h3.i (show ¬ m = m + 387 by omega)]; exact hK.1
    refine ⟨(wg n L g, N), ?_, rfl, h3⟩
    unfold wg
    by_cases c : n = 0
    · rw [if_pos c]
      simp (disch := omega) only [f_M_byLaw_b, e1, h4 c, bI_s, bV_s, bL_s, bR_s, bG_s, bG_n, bX_l, bX_r, ck_nI, nI_clamp, nI_leT, nI_leF, nI_ltT, nI_ltF, nI_eqF, nI_add, pk_mul, ofN, bt_e, or0, Nat.zero_add, Nat.add_zero, ↓reduceIte, if_true, if_false, Bool.false_eq_true, eq_self, li0, li1, li2, li3, li4, li5, li6, li7, li8, li9, li10, li11, li12, li14, li15, li16, li18, li19, li20, li23, li24, li25, li26, li27, li30, li31, li32, li36, li40, li41, li42, li43, li44, li45, li47, li48, li57, li59, li60, li91, li93, li96, li97, li100, li105, li122, li150, li200, li255, li400, li500, li600, li999, li1000, li1001, li2000, li2001, li2002, li2003, li2004, li2005, li2006, li32767, li100000, li_neg, li13, li17, li21, li22, li28, li29, li33, li34, li35, li37, li38, li39, li46, li49, li50, li51, li52, li53, li63, li80, li115, li160]
    · rw [if_neg c]
      have hp : 1 ≤ ht L n := by
        obtain ⟨k, rfl⟩ : ∃ k, n = k + 1 := ⟨n - 1, by omega⟩
        exact ht_pos oL (by omega)
      simp (disch := omega) only [f_M_byLaw_b, e1, h2, bI_s, bV_s, bL_s, bR_s, bG_s, bG_n, bX_l, bX_r, ck_nI, nI_clamp, nI_leT, nI_leF, nI_ltT, nI_ltF, nI_eqF, nI_add, pk_mul, ofN, bt_e, or0, Nat.zero_add, Nat.add_zero, ↓reduceIte, if_true, if_false, Bool.false_eq_true, eq_self, li0, li1, li2, li3, li4, li5, li6, li7, li8, li9, li10, li11, li12, li14, li15, li16, li18, li19, li20, li23, li24, li25, li26, li27, li30, li31, li32, li36, li40, li41, li42, li43, li44, li45, li47, li48, li57, li59, li60, li91, li93, li96, li97, li100, li105, li122, li150, li200, li255, li400, li500, li600, li999, li1000, li1001, li2000, li2001, li2002, li2003, li2004, li2005, li2006, li32767, li100000, li_neg, li13, li17, li21, li22, li28, li29, li33, li34, li35, li37, li38, li39, li46, li49, li50, li51, li52, li53, li63, li80, li115, li160]
end
/-! the plain law -/
def pL (k : Nat) : Nat := if k = 0 then 1000 else if k = 1 then 10 else if k = 2 then 2002 else if k = 3 then 1001 else 2000
theorem pL_ok : okK 5 pL := by
  refine ⟨by omega, fun k hk => ?_⟩
  match k, hk with
  | 0, _ => decide
  | 1, _ => decide
  | 2, _ => decide
  | 3, _ => decide
  | 4, _ => decide
theorem pL_ev (g : Nat → Int32) : ev pL g 5 0 = nI 10 * g 0 + g 1 := by
  show g 0 * nI 10 + g 1 = _
  rw [Int32.mul_comm]
/-- the class's law: n codes L, or the plain one -/
def isLw (M : Mm) (l n : Nat) (L : Nat → Nat) : Prop := if n = 0 then isL M l 5 pL else isL M l n L
theorem C_weighW {M : Mm} {l n gv : Nat} {L : Nat → Nat} {g : Nat → Int32} (hL : isLw M l n L) (oL : okK n L) (hg : ∀ j, j < 8 → gI M gv j = g j) (hd : gv ≠ l + 2) : ∃ M', f_Law_weigh l gv 8 M = some (wg n L g, M') ∧ Fr (fun x => x = l + 2) M M' := by
  unfold isLw at hL
  unfold wg
  by_cases c : n = 0
  · rw [if_pos c] at hL ⊢
    rw [← pL_ev g]
    exact C_weigh hL pL_ok (by omega) hg hd
  · rw [if_neg c] at hL ⊢
    exact C_weigh hL oL (by omega) hg hd
