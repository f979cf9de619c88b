/-! # functional level, 32: the class's search for the best placing -/
section
variable {M M' : Mm} {f p : Nat} {P : TT}
def em (k : Nat) : Int32 := nI (k + 4294967295)
theorem em_le {k x : Nat} (hk : k ≤ 2000) (hx : x ≤ 2000) : (em k < nI x) = (k ≤ x) := by
  unfold em
  rcases Nat.eq_zero_or_pos k with c | c
  · subst c
    have : nI (0 + 4294967295) < nI x := by
      rw [Int32.lt_iff_toInt_lt]
      have e1 : (nI (0 + 4294967295)).toInt = -1 := by decide
      have e2 : (nI x).toInt = x := nI_toInt (by omega)
      omega
    exact propext ⟨fun _ => by omega, fun _ => this⟩
  · rw [nI_w c, nI_ltE (by omega) (by omega)]
    exact propext ⟨fun h => by omega, fun h => by omega⟩
theorem em_s (k : Nat) : em (k + 1) = nI k := by unfold em; rw [nI_w (by omega)]; rfl
def FI (M : Mm) (f p R : Nat) (g : Int32) (room : Nat → Nat) : Prop := gR M f 3 = some p ∧ gI M f 4 = g ∧ ∀ r, r < R → gI M (f + 1) r = nI (room r)
def FN (M : Mm) (f b : Nat) (now : Nat → Int32) : Prop := ∀ i, i < b → gI M (f + 2) i = now i
def FT (M : Mm) (f n : Nat) (st : ST) : Prop := gI M f 5 = em st.1 ∧ (st.1 ≠ 0 → ∀ i, i < n → gI M (f + 3) i = st.2 i)
theorem fu_le {v : Nat → Nat} {R K : Nat} : ∀ (d b : Nat) (room : Nat → Nat) (L : Nat) (now : Nat → Int32) (st : ST), st.1 ≤ K → L + lz v d b < K → (fu v R d b room L now st).1 ≤ K := by
  intro d
  induction d with
  | zero =>
    intro b room L now st h1 h2
    unfold fu; unfold lz at h2
    by_cases c : st.1 ≤ L
    · rw [if_pos c]; show L + 1 ≤ K; omega
    · rw [if_neg c]; exact h1
  | succ d ih =>
    intro b room L now st h1 h2
    have h2 : L + (v b + lz v d (b + 1)) < K := h2
    have hf : ∀ n, (fz (fun r => fu v R d (b + 1) (uN room r (room r - v b)) (L + v b) (uV now b (nI r))) (ft (v b) room) n st).1 ≤ K := by
      intro n
      induction n with
      | zero => exact h1
      | succ n ih2 =>
        unfold fz
        by_cases cn : ft (v b) room n = true
        · rw [if_pos cn]; exact ih _ _ _ _ _ ih2 (by omega)
        · rw [if_neg cn]; exact ih2
    unfold fu
    exact ih _ _ _ _ _ (hf R) (by omega)
theorem fz_no {g : Nat → ST → ST} {c : Nat → Bool} {st : ST} : ∀ n, (∀ k, k < n → ¬ c k = true) → fz g c n st = st := by
  intro n
  induction n with
  | zero => intro _; rfl
  | succ n ih => intro h; unfold fz; rw [if_neg (h n (by omega))]; exact ih (fun k hk => h k (by omega))
theorem C_roomLeft {R : Nat} {g : Int32} {room : Nat → Nat} (hP : gI M p 0 = nI R) (hR : R ≤ 4) (h : FI M f p R g room) (hr : ∀ r, r < R → room r ≤ 30) : f_Fitting_roomLeft f M = some (nI (sm R room), M) := by
  have key : ∀ d i u, i + d = R → d < u → f_Fitting_roomLeft_b u f (nI (sm i room)) (nI i) M = some (nI (sm R room), M) := by
    intro d
    induction d with
    | zero =>
      intro i u hi hu
      obtain ⟨u, rfl⟩ : ∃ v, u = v + 1 := ⟨u - 1, by omega⟩
      obtain rfl : i = R := by omega
      simp (disch := omega) only [f_Fitting_roomLeft_b, h.1, hP, bI_s, bV_s, bL_s, bR_s, bG_s, bG_n, bX_l, bX_r, ck_nI, nI_clamp, nI_leT, nI_leF, nI_ltT, nI_ltF, nI_eqF, nI_add, pk_mul, ofN, bt_e, or0, Nat.zero_add, Nat.add_zero, ↓reduceIte, if_true, if_false, Bool.false_eq_true, eq_self, li0, li1, li2, li3, li4, li5, li6, li7, li8, li9, li10, li11, li12, li14, li15, li16, li18, li19, li20, li23, li24, li25, li26, li27, li30, li31, li32, li36, li40, li41, li42, li43, li44, li45, li47, li48, li57, li59, li60, li91, li93, li96, li97, li100, li105, li122, li150, li200, li255, li400, li500, li600, li999, li1000, li1001, li2000, li2001, li2002, li2003, li2004, li2005, li2006, li32767, li100000, li_neg, li13, li17, li21, li22, li28, li29, li33, li34, li35, li37, li38, li39, li46, li49, li50, li51, li52, li53, li63, li80, li115, li160]
    | succ d ih =>
      intro i u hi hu
      obtain ⟨u, rfl⟩ : ∃ v, u = v + 1 := ⟨u - 1, by omega⟩
      rw [← ih (i + 1) u (by omega) (by omega)]
      have e := h.2.2 i (by omega)
      simp (disch := omega) only [f_Fitting_roomLeft_b, h.1, hP, e, sm, bI_s, bV_s, bL_s, bR_s, bG_s, bG_n, bX_l, bX_r, ck_nI, nI_clamp, nI_leT, nI_leF, nI_ltT, nI_ltF, nI_eqF, nI_add, pk_mul, ofN, bt_e, or0, Nat.zero_add, Nat.add_zero, ↓reduceIte, if_true, if_false, Bool.false_eq_true, eq_self, li0, li1, li2, li3, li4, li5, li6, li7, li8, li9, li10, li11, li12, li14, li15, li16, li18, li19, li20, li23, li24, li25, li26, li27, li30, li31, li32, li36, li40, li41, li42, li43, li44, li45, li47, li48, li57, li59, li60, li91, li93, li96, li97, li100, li105, li122, li150, li200, li255, li400, li500, li600, li999, li1000, li1001, li2000, li2001, li2002, li2003, li2004, li2005, li2006, li32767, li100000, li_neg, li13, li17, li21, li22, li28, li29, li33, li34, li35, li37, li38, li39, li46, li49, li50, li51, li52, li53, li63, li80, li115, li160]
  exact key R 0 FU (by omega) (FU_lt (by omega))
theorem C_like {R r : Nat} {g : Int32} {room : Nat → Nat} (hR : R ≤ 4) (h : FI M f p R g room) (hb : ∀ r, r < R → room r ≤ 30) (hr : r < R) : f_Fitting_isLikeLower f (nI r) M = some (nI 0, M) ∨ ∃ a, a < r ∧ room a = room r ∧ f_Fitting_isLikeLower f (nI r) M = some (nI 1, M) := by
  have key : ∀ d i u, i + d = r → d < u → f_Fitting_isLikeLower_b u f (nI r) (nI i) M = some (nI 0, M) ∨ ∃ a, a < r ∧ room a = room r ∧ f_Fitting_isLikeLower_b u f (nI r) (nI i) M = some (nI 1, M) := by
    intro d
    induction d with
    | zero =>
      intro i u hi hu
      obtain ⟨u, rfl⟩ : ∃ v, u = v + 1 := ⟨u - 1, by omega⟩
      obtain rfl : i = r := by omega
      left
      simp (disch := omega) only [f_Fitting_isLikeLower_b, bI_s, bV_s, bL_s, bR_s, bG_s, bG_n, bX_l, bX_r, ck_nI, nI_clamp, nI_leT, nI_leF, nI_ltT, nI_ltF, nI_eqF, nI_add, pk_mul, ofN, bt_e, or0, Nat.zero_add, Nat.add_zero, ↓reduceIte, if_true, if_false, Bool.false_eq_true, eq_self, li0, li1, li2, li3, li4, li5, li6, li7, li8, li9, li10, li11, li12, li14, li15, li16, li18, li19, li20, li23, li24, li25, li26, li27, li30, li31, li32, li36, li40, li41, li42, li43, li44, li45, li47, li48, li57, li59, li60, li91, li93, li96, li97, li100, li105, li122, li150, li200, li255, li400, li500, li600, li999, li1000, li1001, li2000, li2001, li2002, li2003, li2004, li2005, li2006, li32767, li100000, li_neg, li13, li17, li21, li22, li28, li29, li33, li34, li35, li37, li38, li39, li46, li49, li50, li51, li52, li53, li63, li80, li115, li160]
    | succ d ih =>
      intro i u hi hu
      obtain ⟨u, rfl⟩ : ∃ v, u = v + 1 := ⟨u - 1, by omega⟩
      have e1 := h.2.2 i (by omega)
      have e2 := h.2.2 r hr
      have b1 := hb i (by omega)
      have b2 := hb r hr
      by_cases c : room i = room r
      · right
        refine ⟨i, by omega, c, ?_⟩
        simp (disch := omega) only [f_Fitting_isLikeLower_b, e1, e2, c, bI_s, bV_s, bL_s, bR_s, bG_s, bG_n, bX_l, bX_r, ck_nI, nI_clamp, nI_leT, nI_leF, nI_ltT, nI_ltF, nI_eqF, nI_add, pk_mul, ofN, bt_e, or0, Nat.zero_add, Nat.add_zero, ↓reduceIte, if_true, if_false, Bool.false_eq_true, eq_self, li0, li1, li2, li3, li4, li5, li6, li7, li8, li9, li10, li11, li12, li14, li15, li16, li18, li19, li20, li23, li24, li25, li26, li27, li30, li31, li32, li36, li40, li41, li42, li43, li44, li45, li47, li48, li57, li59, li60, li91, li93, li96, li97, li100, li105, li122, li150, li200, li255, li400, li500, li600, li999, li1000, li1001, li2000, li2001, li2002, li2003, li2004, li2005, li2006, li32767, li100000, li_neg, li13, li17, li21, li22, li28, li29, li33, li34, li35, li37, li38, li39, li46, li49, li50, li51, li52, li53, li63, li80, li115, li160]
      · have e : f_Fitting_isLikeLower_b (u + 1) f (nI r) (nI i) M = f_Fitting_isLikeLower_b u f (nI r) (nI (i + 1)) M := by
          simp (disch := omega) only [f_Fitting_isLikeLower_b, e1, e2, nI_eqF c, bI_s, bV_s, bL_s, bR_s, bG_s, bG_n, bX_l, bX_r, ck_nI, nI_clamp, nI_leT, nI_leF, nI_ltT, nI_ltF, nI_eqF, nI_add, pk_mul, ofN, bt_e, or0, Nat.zero_add, Nat.add_zero, ↓reduceIte, if_true, if_false, Bool.false_eq_true, eq_self, li0, li1, li2, li3, li4, li5, li6, li7, li8, li9, li10, li11, li12, li14, li15, li16, li18, li19, li20, li23, li24, li25, li26, li27, li30, li31, li32, li36, li40, li41, li42, li43, li44, li45, li47, li48, li57, li59, li60, li91, li93, li96, li97, li100, li105, li122, li150, li200, li255, li400, li500, li600, li999, li1000, li1001, li2000, li2001, li2002, li2003, li2004, li2005, li2006, li32767, li100000, li_neg, li13, li17, li21, li22, li28, li29, li33, li34, li35, li37, li38, li39, li46, li49, li50, li51, li52, li53, li63, li80, li115, li160]
        rw [e]
        exact ih (i + 1) u (by omega) (by omega)
  exact key r 0 FU (by omega) (FU_lt (by omega))
theorem sm_30 {R : Nat} {room : Nat → Nat} (hR : R ≤ 4) (hr : ∀ r, r < R → room r ≤ 30) : sm R room ≤ 4 * 30 := by
  have := sm_le (f := room) (g := fun _ => 30) R hr
  rw [sm_const] at this
  omega
def fk (v : Nat → Nat) (R d b : Nat) (room : Nat → Nat) (L : Nat) (now : Nat → Int32) (st : ST) (i : Nat) : ST := fz (fun r => fu v R d (b + 1) (uN room r (room r - v b)) (L + v b) (uV now b (nI r))) (ft (v b) room) i st
section
variable {v : Nat → Nat} {R d b : Nat} {room : Nat → Nat} {L : Nat} {now : Nat → Int32} {st : ST} {i : Nat}
theorem fk_u : fu v R (d + 1) b room L now st = fu v R d (b + 1) room L (uV now b (nI 4294967295)) (fk v R d b room L now st R) := rfl
theorem fk_y (h : ft (v b) room i = true) : fk v R d b room L now st (i + 1) = fu v R d (b + 1) (uN room i (room i - v b)) (L + v b) (uV now b (nI i)) (fk v R d b room L now st i) := if_pos h
theorem fk_n (h : ¬ ft (v b) room i = true) : fk v R d b room L now st (i + 1) = fk v R d b room L now st i := if_neg h
theorem fk_l {a : Nat} (h : ft (v b) room i = true) (ha : a < i) (hi : i < R) (e : room a = room i) : fk v R d b room L now st (i + 1) = fk v R d b room L now st i := (fk_y h).trans (fz_like ha hi (Nat.le_refl i) e h)
theorem fk_0 (h : v b = 0) : ∀ i, fk v R d b room L now st i = st := fun i => fz_no i (fun k _ hc => by have := ft_t.mp hc; omega)
theorem fk_le {K : Nat} (h1 : st.1 ≤ K) (h2 : L + (v b + lz v d (b + 1)) < K) : ∀ i, (fk v R d b room L now st i).1 ≤ K := by
  intro i
  induction i with
  | zero => exact h1
  | succ i ih =>
    by_cases c : ft (v b) room i = true
    · rw [fk_y c]; exact fu_le _ _ _ _ _ _ ih (by omega)
    · rw [fk_n c]; exact ih
end
def vz (P : TT) (g : Int32) (b : Nat) : Nat := if hs g b = true then P 3 b else 0
def FQ (M0 : Mm) (f p R n b : Nat) (g : Int32) (room : Nat → Nat) (now : Nat → Int32) (st : ST) (M : Mm) : Prop := Fr (rg f 4) M0 M ∧ FI M f p R g room ∧ FN M f b now ∧ FT M f n st
theorem C_place {g : Int32} (oP : okP P) (hp : p + 8 ≤ f ∨ f + 4 ≤ p) : ∀ (d b : Nat) (room : Nat → Nat) (L : Nat) (now : Nat → Int32) (st : ST) (M : Mm) (u : Nat), b + d = P 0 2 → d < u → L + lz (vz P g) d b ≤ 1000 → (∀ r, r < P 0 0 → room r ≤ 30) → st.1 ≤ 1001 → isP M p P → FI M f p (P 0 0) g room → FN M f b now → FT M f (P 0 2) st → ∃ M', f_Fitting_place u f (nI b) (nI L) (nI (lz (vz P g) d b)) M = some M' ∧ FQ M f p (P 0 0) (P 0 2) b g room now (fu (vz P g) (P 0 0) d b room L now st) M' := by
  have hRb := oP.r
  have hBb := oP.b
  intro d
  induction d with
  | zero =>
    intro b room L now st M u hb hu hL hr hst hP hI hN hT
    obtain ⟨u, rfl⟩ : ∃ v, u = v + 1 := ⟨u - 1, by omega⟩
    have hL : L + 0 ≤ 1000 := hL
    have hsm : sm (P 0 0) room ≤ 4 * 30 := sm_30 hRb hr
    have e1 := C_roomLeft hP.r hRb hI hr
    have e2 := hT.1
    have hm : min 0 (sm (P 0 0) room) = 0 := by omega
    by_cases c : st.1 ≤ L
    · have c2 : em st.1 < nI L := by rw [em_le (by omega) (by omega)]; exact c
      refine ⟨sCi (sI M f 5 (nI L)) (f + 2) (f + 3) 0 0 8, ?_, (((Fr.rf _ M).sI (show rg f 4 f by unfold rg; omega)).sCi (show rg f 4 (f + 3) by unfold rg; omega)), ⟨hI.1, ?_, ?_⟩, ?_, ?_⟩
      · show f_Fitting_place_0 (f_Fitting_place u) f (nI b) (nI L) (nI 0) M = _
        have := hP.b
        simp (disch := omega) only [f_Fitting_place_0, hI.1, e1, e2, mnI_n, hm, c2, this, hb, bI_s, bV_s, bL_s, bR_s, bG_s, bG_n, bX_l, bX_r, ck_nI, nI_clamp, nI_leT, nI_leF, nI_ltT, nI_ltF, nI_eqF, nI_add, pk_mul, ofN, bt_e, or0, Nat.zero_add, Nat.add_zero, ↓reduceIte, if_true, if_false, Bool.false_eq_true, eq_self, li0, li1, li2, li3, li4, li5, li6, li7, li8, li9, li10, li11, li12, li14, li15, li16, li18, li19, li20, li23, li24, li25, li26, li27, li30, li31, li32, li36, li40, li41, li42, li43, li44, li45, li47, li48, li57, li59, li60, li91, li93, li96, li97, li100, li105, li122, li150, li200, li255, li400, li500, li600, li999, li1000, li1001, li2000, li2001, li2002, li2003, li2004, li2005, li2006, li32767, li100000, li_neg, li13, li17, li21, li22, li28, li29, li33, li34, li35, li37, li38, li39, li46, li49, li50, li51, li52, li53, li63, li80, li115, li160]
      · rw [sCi_n (by omega), gI_ne (Or.inr (by omega))]; exact hI.2.1
      · intro r h; rw [sCi_n (by omega), gI_ne (Or.inl (by omega))]; exact hI.2.2 r h
      · intro i h; rw [sCi_n (by omega), gI_ne (Or.inl (by omega))]; exact hN i h
      · unfold fu; rw [if_pos c]
        refine ⟨?_, fun _ i h => ?_⟩
        · rw [sCi_n (by omega), gI_same, em_s]
        · rw [sCi_s, pk_cpy_in (by omega) (by omega), gI_ne (Or.inl (by omega)), Nat.sub_zero, Nat.zero_add]
          exact hN i (by omega)
    · have c2 : ¬ em st.1 < nI L := by rw [em_le (by omega) (by omega)]; exact c
      refine ⟨M, ?_, Fr.rf _ M, hI, hN, ?_⟩
      · show f_Fitting_place_0 (f_Fitting_place u) f (nI b) (nI L) (nI 0) M = _
        simp (disch := omega) only [f_Fitting_place_0, hI.1, e1, e2, mnI_n, hm, c2, bI_s, bV_s, bL_s, bR_s, bG_s, bG_n, bX_l, bX_r, ck_nI, nI_clamp, nI_leT, nI_leF, nI_ltT, nI_ltF, nI_eqF, nI_add, pk_mul, ofN, bt_e, or0, Nat.zero_add, Nat.add_zero, ↓reduceIte, if_true, if_false, Bool.false_eq_true, eq_self, li0, li1, li2, li3, li4, li5, li6, li7, li8, li9, li10, li11, li12, li14, li15, li16, li18, li19, li20, li23, li24, li25, li26, li27, li30, li31, li32, li36, li40, li41, li42, li43, li44, li45, li47, li48, li57, li59, li60, li91, li93, li96, li97, li100, li105, li122, li150, li200, li255, li400, li500, li600, li999, li1000, li1001, li2000, li2001, li2002, li2003, li2004, li2005, li2006, li32767, li100000, li_neg, li13, li17, li21, li22, li28, li29, li33, li34, li35, li37, li38, li39, li46, li49, li50, li51, li52, li53, li63, li80, li115, li160]
      · unfold fu; rw [if_neg c]; exact hT
  | succ d ih =>
    intro b room L now st M u hb hu hL hr hst hP hI hN hT
    obtain ⟨u, rfl⟩ : ∃ v, u = v + 1 := ⟨u - 1, by omega⟩
    have hL : L + (vz P g b + lz (vz P g) d (b + 1)) ≤ 1000 := hL
    have hsm : sm (P 0 0) room ≤ 4 * 30 := sm_30 hRb hr
    have e1 := C_roomLeft hP.r hRb hI hr
    have e2 := hT.1
    have hlz : lz (vz P g) (d + 1) b = vz P g b + lz (vz P g) d (b + 1) := rfl
    have g1 := gz_lz (v := vz P g) (R := P 0 0) (d + 1) b room
    have g2 := gz_sm (v := vz P g) (R := P 0 0) (d + 1) b room
    by_cases c : st.1 ≤ L + min (lz (vz P g) (d + 1) b) (sm (P 0 0) room)
    · have c2 : em st.1 < nI (L + min (lz (vz P g) (d + 1) b) (sm (P 0 0) room)) := by rw [em_le (by omega) (by omega)]; exact c
      have e3 : f_Fitting_place (u + 1) f (nI b) (nI L) (nI (lz (vz P g) (d + 1) b)) M = f_Fitting_place_b (f_Fitting_place u) FU f (nI b) (nI L) (nI (lz (vz P g) (d + 1) b)) (nI (vz P g b)) (nI 0) M := by
        show f_Fitting_place_0 (f_Fitting_place u) f (nI b) (nI L) (nI (lz (vz P g) (d + 1) b)) M = _
        have := hP.b
        have h3 := hP.len (show b < P 0 2 by omega)
        by_cases q : hs g b = true
        · have e4 : vz P g b = P 3 b := if_pos q
          rw [e4]
          simp (disch := omega) only [f_Fitting_place_0, hI.1, hI.2.1, e1, e2, mnI_n, c2, this, C_hasT q, h3, bI_s, bV_s, bL_s, bR_s, bG_s, bG_n, bX_l, bX_r, ck_nI, nI_clamp, nI_leT, nI_leF, nI_ltT, nI_ltF, nI_eqF, nI_add, pk_mul, ofN, bt_e, or0, Nat.zero_add, Nat.add_zero, ↓reduceIte, if_true, if_false, Bool.false_eq_true, eq_self, li0, li1, li2, li3, li4, li5, li6, li7, li8, li9, li10, li11, li12, li14, li15, li16, li18, li19, li20, li23, li24, li25, li26, li27, li30, li31, li32, li36, li40, li41, li42, li43, li44, li45, li47, li48, li57, li59, li60, li91, li93, li96, li97, li100, li105, li122, li150, li200, li255, li400, li500, li600, li999, li1000, li1001, li2000, li2001, li2002, li2003, li2004, li2005, li2006, li32767, li100000, li_neg, li13, li17, li21, li22, li28, li29, li33, li34, li35, li37, li38, li39, li46, li49, li50, li51, li52, li53, li63, li80, li115, li160]
        · have e4 : vz P g b = 0 := if_neg q
          rw [e4]
          simp (disch := omega) only [f_Fitting_place_0, hI.1, hI.2.1, e1, e2, mnI_n, c2, this, C_hasF q, bI_s, bV_s, bL_s, bR_s, bG_s, bG_n, bX_l, bX_r, ck_nI, nI_clamp, nI_leT, nI_leF, nI_ltT, nI_ltF, nI_eqF, nI_add, pk_mul, ofN, bt_e, or0, Nat.zero_add, Nat.add_zero, ↓reduceIte, if_true, if_false, Bool.false_eq_true, eq_self, li0, li1, li2, li3, li4, li5, li6, li7, li8, li9, li10, li11, li12, li14, li15, li16, li18, li19, li20, li23, li24, li25, li26, li27, li30, li31, li32, li36, li40, li41, li42, li43, li44, li45, li47, li48, li57, li59, li60, li91, li93, li96, li97, li100, li105, li122, li150, li200, li255, li400, li500, li600, li999, li1000, li1001, li2000, li2001, li2002, li2003, li2004, li2005, li2006, li32767, li100000, li_neg, li13, li17, li21, li22, li28, li29, li33, li34, li35, li37, li38, li39, li46, li49, li50, li51, li52, li53, li63, li80, li115, li160]
      rw [e3]
      have hfr : ∀ {N : Mm}, Fr (rg f 4) M N → isP N p P := fun q => hP.fr q (fun x h1 h2 => by unfold rg; omega)
      have hkl := fk_le (v := vz P g) (R := P 0 0) (d := d) (b := b) (room := room) (now := now) hst (show L + (vz P g b + lz (vz P g) d (b + 1)) < 1001 by omega)
      have hsub : nI (lz (vz P g) (d + 1) b) - nI (vz P g b) = nI (lz (vz P g) d (b + 1)) := by
        rw [hlz, pk_sub (by omega)]; congr 1; omega
      have hc : ∀ (i : Int32) (N : Mm), FQ M f p (P 0 0) (P 0 2) b g room now (fk (vz P g) (P 0 0) d b room L now st (P 0 0)) N → ∃ r, f_Fitting_place_c (f_Fitting_place u) f (nI b) (nI L) (nI (lz (vz P g) (d + 1) b)) (nI (vz P g b)) i N = some r ∧ FQ M f p (P 0 0) (P 0 2) b g room now (fu (vz P g) (P 0 0) (d + 1) b room L now st) r := by
        intro i N hq
        obtain ⟨q1, q2, q3, q4⟩ := hq
        have q5 : Fr (rg f 4) M (sI N (f + 2) b (nI 4294967295)) := q1.sI (show rg f 4 (f + 2) by unfold rg; omega)
        have key := ih (b + 1) room L (uV now b (nI 4294967295)) (fk (vz P g) (P 0 0) d b room L now st (P 0 0)) (sI N (f + 2) b (nI 4294967295)) u (by omega) (by omega) (by omega) hr (hkl _) (hfr q5) ⟨q2.1, by rw [gI_ne (Or.inl (by omega))]; exact q2.2.1, fun r h => by rw [gI_ne (Or.inl (by omega))]; exact q2.2.2 r h⟩ (fun j h => ?_) ⟨by rw [gI_ne (Or.inl (by omega))]; exact q4.1, fun h0 j h => by rw [gI_ne (Or.inl (by omega))]; exact q4.2 h0 j h⟩
        · obtain ⟨M', e, r1, r2, r3, r4⟩ := key
          refine ⟨M', ?_, q5.trans r1, r2, fun j h => ?_, ?_⟩
          · simp (disch := omega) only [f_Fitting_place_c, hsub, e, bI_s, bV_s, bL_s, bR_s, bG_s, bG_n, bX_l, bX_r, ck_nI, nI_clamp, nI_leT, nI_leF, nI_ltT, nI_ltF, nI_eqF, nI_add, pk_mul, ofN, bt_e, or0, Nat.zero_add, Nat.add_zero, ↓reduceIte, if_true, if_false, Bool.false_eq_true, eq_self, li0, li1, li2, li3, li4, li5, li6, li7, li8, li9, li10, li11, li12, li14, li15, li16, li18, li19, li20, li23, li24, li25, li26, li27, li30, li31, li32, li36, li40, li41, li42, li43, li44, li45, li47, li48, li57, li59, li60, li91, li93, li96, li97, li100, li105, li122, li150, li200, li255, li400, li500, li600, li999, li1000, li1001, li2000, li2001, li2002, li2003, li2004, li2005, li2006, li32767, li100000, li_neg, li13, li17, li21, li22, li28, li29, li33, li34, li35, li37, li38, li39, li46, li49, li50, li51, li52, li53, li63, li80, li115, li160]
          · rw [r3 j (by omega)]; exact if_neg (by omega)
          · rw [fk_u]; exact r4
        · unfold uV
          by_cases q : j = b
          · rw [if_pos q, q, gI_same]
          · rw [if_neg q, gI_ne (Or.inr q)]; exact q3 j (by omega)
      refine lp_inv (fun w i (N : Mm) => f_Fitting_place_b (f_Fitting_place u) w f (nI b) (nI L) (nI (lz (vz P g) (d + 1) b)) (nI (vz P g b)) (nI i) N) (P 0 0) (fun i N => FQ M f p (P 0 0) (P 0 2) b g room now (fk (vz P g) (P 0 0) d b room L now st i) N) (FQ M f p (P 0 0) (P 0 2) b g room now (fu (vz P g) (P 0 0) (d + 1) b room L now st)) ?_ ?_ 0 (by omega) M ⟨Fr.rf _ M, hI, hN, hT⟩ FU (FU_lt (by omega))
      · intro w i N hi hq
        have q1 := hq.1
        have q2 := hq.2.1
        have hPr := (hfr q1).r
        have e4 := q2.2.2 i hi
        have b4 := hr i hi
        rcases Nat.eq_zero_or_pos (vz P g b) with v0 | v0
        · right
          obtain ⟨r, e, hr2⟩ := hc (nI i) N (by rw [fk_0 v0]; rw [fk_0 v0] at hq; exact hq)
          refine ⟨r, ?_, hr2⟩
          rw [v0] at e
          simp (disch := omega) only [f_Fitting_place_b, q2.1, hPr, v0, e, bI_s, bV_s, bL_s, bR_s, bG_s, bG_n, bX_l, bX_r, ck_nI, nI_clamp, nI_leT, nI_leF, nI_ltT, nI_ltF, nI_eqF, nI_add, pk_mul, ofN, bt_e, or0, Nat.zero_add, Nat.add_zero, ↓reduceIte, if_true, if_false, Bool.false_eq_true, eq_self, li0, li1, li2, li3, li4, li5, li6, li7, li8, li9, li10, li11, li12, li14, li15, li16, li18, li19, li20, li23, li24, li25, li26, li27, li30, li31, li32, li36, li40, li41, li42, li43, li44, li45, li47, li48, li57, li59, li60, li91, li93, li96, li97, li100, li105, li122, li150, li200, li255, li400, li500, li600, li999, li1000, li1001, li2000, li2001, li2002, li2003, li2004, li2005, li2006, li32767, li100000, li_neg, li13, li17, li21, li22, li28, li29, li33, li34, li35, li37, li38, li39, li46, li49, li50, li51, li52, li53, li63, li80, li115, li160]
        · left
          by_cases cf : vz P g b ≤ room i
          · have hft : ft (vz P g b) room i = true := ft_t.mpr ⟨v0, cf⟩
            rcases C_like hRb q2 hr hi with el | ⟨a, ha, ea, el⟩
            · have q5 : Fr (rg f 4) M (sI (sI N (f + 1) i (nI (room i - vz P g b))) (f + 2) b (nI i)) := (q1.sI (show rg f 4 (f + 1) by unfold rg; omega)).sI (show rg f 4 (f + 2) by unfold rg; omega)
              have key := ih (b + 1) (uN room i (room i - vz P g b)) (L + vz P g b) (uV now b (nI i)) (fk (vz P g) (P 0 0) d b room L now st i) (sI (sI N (f + 1) i (nI (room i - vz P g b))) (f + 2) b (nI i)) u (by omega) (by omega) (by omega) (fun r h => ?_) (hkl _) (hfr q5) ⟨q2.1, by rw [gI_ne (Or.inl (by omega)), gI_ne (Or.inl (by omega))]; exact q2.2.1, fun r h => ?_⟩ (fun j h => ?_) ⟨by rw [gI_ne (Or.inl (by omega)), gI_ne (Or.inl (by omega))]; exact hq.2.2.2.1, fun h0 j h => by rw [gI_ne (Or.inl (by omega)), gI_ne (Or.inl (by omega))]; exact hq.2.2.2.2 h0 j h⟩
              · obtain ⟨M', e, r1, r2, r3, r4⟩ := key
                have e6 : gI M' (f + 1) i = nI (room i - vz P g b) := by rw [r2.2.2 i hi]; unfold uN; rw [if_pos rfl]
                have e7 : room i - vz P g b + vz P g b = room i := by omega
                refine ⟨sI M' (f + 1) i (nI (room i)), ?_, (q5.trans r1).sI (show rg f 4 (f + 1) by unfold rg; omega), ⟨r2.1, ?_, fun r h => ?_⟩, fun j h => ?_, ?_⟩
                · have z := pk_sub (show vz P g b ≤ room i from cf)
                  simp (disch := omega) only [f_Fitting_place_b, q2.1, hPr, e4, el, z, hsub, e, e6, e7, bI_s, bV_s, bL_s, bR_s, bG_s, bG_n, bX_l, bX_r, ck_nI, nI_clamp, nI_leT, nI_leF, nI_ltT, nI_ltF, nI_eqF, nI_add, pk_mul, ofN, bt_e, or0, Nat.zero_add, Nat.add_zero, ↓reduceIte, if_true, if_false, Bool.false_eq_true, eq_self, li0, li1, li2, li3, li4, li5, li6, li7, li8, li9, li10, li11, li12, li14, li15, li16, li18, li19, li20, li23, li24, li25, li26, li27, li30, li31, li32, li36, li40, li41, li42, li43, li44, li45, li47, li48, li57, li59, li60, li91, li93, li96, li97, li100, li105, li122, li150, li200, li255, li400, li500, li600, li999, li1000, li1001, li2000, li2001, li2002, li2003, li2004, li2005, li2006, li32767, li100000, li_neg, li13, li17, li21, li22, li28, li29, li33, li34, li35, li37, li38, li39, li46, li49, li50, li51, li52, li53, li63, li80, li115, li160]
                · rw [gI_ne (Or.inl (by omega))]; exact r2.2.1
                · by_cases q : r = i
                  · rw [q, gI_same]
                  · rw [gI_ne (Or.inr q), r2.2.2 r h]; unfold uN; rw [if_neg q]
                · rw [gI_ne (Or.inl (by omega)), r3 j (by omega)]; exact if_neg (by omega)
                · rw [fk_y hft]
                  exact ⟨by rw [gI_ne (Or.inl (by omega))]; exact r4.1, fun h0 j h => by rw [gI_ne (Or.inl (by omega))]; exact r4.2 h0 j h⟩
              · have := hr r h
                unfold uN
                split
                · omega
                · exact this
              · rw [gI_ne (Or.inl (by omega))]
                unfold uN
                by_cases q : r = i
                · rw [if_pos q, q, gI_same]
                · rw [if_neg q, gI_ne (Or.inr q)]; exact q2.2.2 r h
              · unfold uV
                by_cases q : j = b
                · rw [if_pos q, q, gI_same]
                · rw [if_neg q, gI_ne (Or.inr q), gI_ne (Or.inl (by omega))]; exact hq.2.2.1 j (by omega)
            · refine ⟨N, ?_, by rw [fk_l hft ha hi ea]; exact hq⟩
              simp (disch := omega) only [f_Fitting_place_b, q2.1, hPr, e4, el, bI_s, bV_s, bL_s, bR_s, bG_s, bG_n, bX_l, bX_r, ck_nI, nI_clamp, nI_leT, nI_leF, nI_ltT, nI_ltF, nI_eqF, nI_add, pk_mul, ofN, bt_e, or0, Nat.zero_add, Nat.add_zero, ↓reduceIte, if_true, if_false, Bool.false_eq_true, eq_self, li0, li1, li2, li3, li4, li5, li6, li7, li8, li9, li10, li11, li12, li14, li15, li16, li18, li19, li20, li23, li24, li25, li26, li27, li30, li31, li32, li36, li40, li41, li42, li43, li44, li45, li47, li48, li57, li59, li60, li91, li93, li96, li97, li100, li105, li122, li150, li200, li255, li400, li500, li600, li999, li1000, li1001, li2000, li2001, li2002, li2003, li2004, li2005, li2006, li32767, li100000, li_neg, li13, li17, li21, li22, li28, li29, li33, li34, li35, li37, li38, li39, li46, li49, li50, li51, li52, li53, li63, li80, li115, li160]
          · refine ⟨N, ?_, by rw [fk_n (fun q => cf (ft_t.mp q).2)]; exact hq⟩
            simp (disch := omega) only [f_Fitting_place_b, q2.1, hPr, e4, bI_s, bV_s, bL_s, bR_s, bG_s, bG_n, bX_l, bX_r, ck_nI, nI_clamp, nI_leT, nI_leF, nI_ltT, nI_ltF, nI_eqF, nI_add, pk_mul, ofN, bt_e, or0, Nat.zero_add, Nat.add_zero, ↓reduceIte, if_true, if_false, Bool.false_eq_true, eq_self, li0, li1, li2, li3, li4, li5, li6, li7, li8, li9, li10, li11, li12, li14, li15, li16, li18, li19, li20, li23, li24, li25, li26, li27, li30, li31, li32, li36, li40, li41, li42, li43, li44, li45, li47, li48, li57, li59, li60, li91, li93, li96, li97, li100, li105, li122, li150, li200, li255, li400, li500, li600, li999, li1000, li1001, li2000, li2001, li2002, li2003, li2004, li2005, li2006, li32767, li100000, li_neg, li13, li17, li21, li22, li28, li29, li33, li34, li35, li37, li38, li39, li46, li49, li50, li51, li52, li53, li63, li80, li115, li160]
      · intro w N hq
        obtain ⟨r, e, hr2⟩ := hc (nI (P 0 0)) N hq
        refine ⟨r, ?_, hr2⟩
        have hPr := (hfr hq.1).r
        simp (disch := omega) only [f_Fitting_place_b, hq.2.1.1, hPr, e, bI_s, bV_s, bL_s, bR_s, bG_s, bG_n, bX_l, bX_r, ck_nI, nI_clamp, nI_leT, nI_leF, nI_ltT, nI_ltF, nI_eqF, nI_add, pk_mul, ofN, bt_e, or0, Nat.zero_add, Nat.add_zero, ↓reduceIte, if_true, if_false, Bool.false_eq_true, eq_self, li0, li1, li2, li3, li4, li5, li6, li7, li8, li9, li10, li11, li12, li14, li15, li16, li18, li19, li20, li23, li24, li25, li26, li27, li30, li31, li32, li36, li40, li41, li42, li43, li44, li45, li47, li48, li57, li59, li60, li91, li93, li96, li97, li100, li105, li122, li150, li200, li255, li400, li500, li600, li999, li1000, li1001, li2000, li2001, li2002, li2003, li2004, li2005, li2006, li32767, li100000, li_neg, li13, li17, li21, li22, li28, li29, li33, li34, li35, li37, li38, li39, li46, li49, li50, li51, li52, li53, li63, li80, li115, li160]
    · have c2 : ¬ em st.1 < nI (L + min (lz (vz P g) (d + 1) b) (sm (P 0 0) room)) := by rw [em_le (by omega) (by omega)]; exact c
      refine ⟨M, ?_, Fr.rf _ M, hI, hN, ?_⟩
      · show f_Fitting_place_0 (f_Fitting_place u) f (nI b) (nI L) (nI (lz (vz P g) (d + 1) b)) M = _
        simp (disch := omega) only [f_Fitting_place_0, hI.1, e1, e2, mnI_n, c2, bI_s, bV_s, bL_s, bR_s, bG_s, bG_n, bX_l, bX_r, ck_nI, nI_clamp, nI_leT, nI_leF, nI_ltT, nI_ltF, nI_eqF, nI_add, pk_mul, ofN, bt_e, or0, Nat.zero_add, Nat.add_zero, ↓reduceIte, if_true, if_false, Bool.false_eq_true, eq_self, li0, li1, li2, li3, li4, li5, li6, li7, li8, li9, li10, li11, li12, li14, li15, li16, li18, li19, li20, li23, li24, li25, li26, li27, li30, li31, li32, li36, li40, li41, li42, li43, li44, li45, li47, li48, li57, li59, li60, li91, li93, li96, li97, li100, li105, li122, li150, li200, li255, li400, li500, li600, li999, li1000, li1001, li2000, li2001, li2002, li2003, li2004, li2005, li2006, li32767, li100000, li_neg, li13, li17, li21, li22, li28, li29, li33, li34, li35, li37, li38, li39, li46, li49, li50, li51, li52, li53, li63, li80, li115, li160]
      · rw [fu_id _ _ _ _ _ _ (by omega)]; exact hT
end
