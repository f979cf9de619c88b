/-! # functional level, 33: the model's search for the best placing -/
section
variable {N N' N1 N2 : Mm} {m : Nat} {P : TT}
def wR (m a j : Nat) : Prop := (m + 493 ≤ a ∧ a < m + 497) ∨ (a = m ∧ j = 48)
def FW (m : Nat) (M N : Mm) : Prop := (nx N = nx M ∧ kd N = kd M) ∧ (∀ a j, ¬ wR m a j → gI N a j = gI M a j) ∧ (∀ a j, gL N a j = gL M a j) ∧ ∀ a j, gR N a j = gR M a j
theorem FW.rf (m : Nat) (M : Mm) : FW m M M := ⟨⟨rfl, rfl⟩, fun _ _ _ => rfl, fun _ _ => rfl, fun _ _ => rfl⟩
theorem FW.trans (h : FW m N N1) (h2 : FW m N1 N2) : FW m N N2 := ⟨⟨h2.1.1.trans h.1.1, h2.1.2.trans h.1.2⟩, fun a j hs => (h2.2.1 a j hs).trans (h.2.1 a j hs), fun a j => (h2.2.2.1 a j).trans (h.2.2.1 a j), fun a j => (h2.2.2.2 a j).trans (h.2.2.2 a j)⟩
theorem FW.sI (h : FW m N N1) {a j : Nat} {v : Int32} (ha : wR m a j) : FW m N (sI N1 a j v) :=
  ⟨h.1, fun a' j' hs => by rw [gI_sI, if_neg (fun e => hs (by rw [e.1, e.2]; exact ha))]; exact h.2.1 a' j' hs, h.2.2.1, h.2.2.2⟩
theorem FW.fm (h : FW m N N1) : FM m N N1 := ⟨h.1, fun a j hs => h.2.1 a j (fun q => hs (by unfold wR at q; unfold scM; omega)), fun a j _ => h.2.2.1 a j, fun a j _ => h.2.2.2 a j⟩
theorem FW.ofFr {D : Nat → Prop} (h : Fr D N N1) (hd : ∀ a, D a → m + 493 ≤ a ∧ a < m + 497) (hl : ∀ a, D a → (∀ j, gL N1 a j = gL N a j) ∧ ∀ j, gR N1 a j = gR N a j) : FW m N N1 := by
  refine ⟨h.1, fun a j hs => h.i (fun q => hs (Or.inl (hd a q))) j, fun a j => ?_, fun a j => ?_⟩
  · by_cases q : D a
    · exact (hl a q).1 j
    · exact h.l q j
  · by_cases q : D a
    · exact (hl a q).2 j
    · exact h.r q j
def QF (M : Mm) (m : Nat) (P : TT) : Prop := gI M (m + 4) 0 = nI (P 0 0) ∧ gI M (m + 4) 1 = nI (P 0 2) ∧ ∀ k, k < P 0 2 → gI M (m + 20 + 1 + k) 1 = nI (P 3 k)
theorem QF.fw (h : QF N m P) (oP : okP P) (f : FW m N N1) : QF N1 m P := by
  have := oP.b
  refine ⟨?_, ?_, fun k hk => ?_⟩
  · rw [f.2.1 _ _ (by unfold wR; omega)]; exact h.1
  · rw [f.2.1 _ _ (by unfold wR; omega)]; exact h.2.1
  · rw [f.2.1 _ _ (by unfold wR; omega)]; exact h.2.2 k hk
def WI (M : Mm) (m : Nat) (P : TT) (g : Int32) (room : Nat → Nat) : Prop := (∀ r, r < P 0 0 → gI M (m + 495) r = nI (room r)) ∧ ∀ k, k ≤ P 0 2 → gI M (m + 496) k = nI (lz (vz P g) (P 0 2 - k) k)
def WN (M : Mm) (m b : Nat) (now : Nat → Int32) : Prop := ∀ i, i < b → gI M (m + 493) i = now i
def WT (M : Mm) (m n : Nat) (st : ST) : Prop := gI M m 48 = em st.1 ∧ (st.1 ≠ 0 → ∀ i, i < n → gI M (m + 494) i = st.2 i)
def WQ (M0 : Mm) (m b : Nat) (P : TT) (g : Int32) (room : Nat → Nat) (now : Nat → Int32) (st : ST) (M : Mm) : Prop := FW m M0 M ∧ WI M m P g room ∧ WN M m b now ∧ WT M m (P 0 2) st
theorem M_leaf {ρ : Nat → Int32 → Int32 → Int32 → Mm → Option Mm} {g L : Int32} {n : Nat} (hn : n ≤ 8) (N : Mm) : ∃ N', f_M_writesFrom_b ρ FU m g (nI n) L (nI 0) N = some N' ∧ FW m N N' ∧ (∀ a j, a ≠ m + 494 → gI N' a j = gI N a j) ∧ ∀ k, k < n → gI N' (m + 494) k = gI N (m + 493) k := by
  refine lp_inv (fun w i (N1 : Mm) => f_M_writesFrom_b ρ w m g (nI n) L (nI i) N1) n (fun i N1 => FW m N N1 ∧ (∀ a j, a ≠ m + 494 → gI N1 a j = gI N a j) ∧ ∀ k, k < i → gI N1 (m + 494) k = gI N (m + 493) k) (fun N1 => FW m N N1 ∧ (∀ a j, a ≠ m + 494 → gI N1 a j = gI N a j) ∧ ∀ k, k < n → gI N1 (m + 494) k = gI N (m + 493) k) ?_ ?_ 0 (by omega) N ⟨FW.rf _ _, fun _ _ _ => rfl, fun k h => by omega⟩ FU (FU_lt (by omega))
  · intro w i N1 hi h
    left
    refine ⟨sI N1 (m + 494) i (gI N1 (m + 493) i), ?_, h.1.sI (by unfold wR; omega), fun a j ha => ?_, fun k hk => ?_⟩
    · simp (disch := omega) only [f_M_writesFrom_b, bI_s, bV_s, bL_s, bR_s, bG_s, bG_n, bX_l, bX_r, ck_nI, nI_clamp, nI_leT, nI_leF, nI_ltT, nI_ltF, nI_eqF, nI_add, pk_mul, ofN, bt_e, or0, Nat.zero_add, Nat.add_zero, ↓reduceIte, if_true, if_false, Bool.false_eq_true, eq_self, li0, li1, li2, li3, li4, li5, li6, li7, li8, li9, li10, li11, li12, li14, li15, li16, li18, li19, li20, li23, li24, li25, li26, li27, li30, li31, li32, li36, li40, li41, li42, li43, li44, li45, li47, li48, li57, li59, li60, li91, li93, li96, li97, li100, li105, li122, li150, li200, li255, li400, li500, li600, li999, li1000, li1001, li2000, li2001, li2002, li2003, li2004, li2005, li2006, li32767, li100000, li_neg, li13, li17, li21, li22, li28, li29, li33, li34, li35, li37, li38, li39, li46, li49, li50, li51, li52, li53, li63, li80, li115, li160]
    · rw [gI_ne (Or.inl ha)]; exact h.2.1 a j ha
    · by_cases q : k = i
      · rw [q, gI_same]; exact h.2.1 _ _ (by omega)
      · rw [gI_ne (Or.inr q)]; exact h.2.2 k (by omega)
  · intro w N1 h
    refine ⟨N1, ?_, h⟩
    simp (disch := omega) only [f_M_writesFrom_b, bI_s, bV_s, bL_s, bR_s, bG_s, bG_n, bX_l, bX_r, ck_nI, nI_clamp, nI_leT, nI_leF, nI_ltT, nI_ltF, nI_eqF, nI_add, pk_mul, ofN, bt_e, or0, Nat.zero_add, Nat.add_zero, ↓reduceIte, if_true, if_false, Bool.false_eq_true, eq_self, li0, li1, li2, li3, li4, li5, li6, li7, li8, li9, li10, li11, li12, li14, li15, li16, li18, li19, li20, li23, li24, li25, li26, li27, li30, li31, li32, li36, li40, li41, li42, li43, li44, li45, li47, li48, li57, li59, li60, li91, li93, li96, li97, li100, li105, li122, li150, li200, li255, li400, li500, li600, li999, li1000, li1001, li2000, li2001, li2002, li2003, li2004, li2005, li2006, li32767, li100000, li_neg, li13, li17, li21, li22, li28, li29, li33, li34, li35, li37, li38, li39, li46, li49, li50, li51, li52, li53, li63, li80, li115, li160]
theorem M_place {g : Int32} (oP : okP P) : ∀ (d b : Nat) (room : Nat → Nat) (L : Nat) (now : Nat → Int32) (st : ST) (N : Mm) (u : Nat), b + d = P 0 2 → d < u → L + lz (vz P g) d b ≤ 1000 → (∀ r, r < P 0 0 → room r ≤ 30) → st.1 ≤ 1001 → QF N m P → WI N m P g room → WN N m b now → WT N m (P 0 2) st → ∃ N', f_M_writesFrom u m g (nI b) (nI L) N = some N' ∧ WQ N m b P g room now (fu (vz P g) (P 0 0) d b room L now st) N' := by
  have hRb := oP.r
  have hBb := oP.b
  intro d
  induction d with
  | zero =>
    intro b room L now st N u hb hu hL hr hst hP hI hN hT
    obtain ⟨u, rfl⟩ : ∃ v, u = v + 1 := ⟨u - 1, by omega⟩
    have hL : L + 0 ≤ 1000 := hL
    have hb : b = P 0 2 := hb
    have e1 : gI N (m + 496) b = nI 0 := by rw [hI.2 b (by omega), hb, Nat.sub_self]; rfl
    have e2 := hT.1
    have hP2 := hP.2.1
    by_cases c : st.1 ≤ L
    · have c2 : em st.1 < nI L := by rw [em_le (by omega) (by omega)]; exact c
      obtain ⟨N', e, n1, n2, n3⟩ := M_leaf (m := m) (ρ := f_M_writesFrom u) (g := g) (L := nI L) (n := b) (by omega) (sI N m 48 (nI L))
      refine ⟨N', ?_, ((FW.rf _ N).sI (by unfold wR; omega)).trans n1, ⟨fun r h => ?_, fun k h => ?_⟩, fun i h => ?_, ?_⟩
      · show f_M_writesFrom_0 (f_M_writesFrom u) m g (nI b) (nI L) N = _
        rw [← hb] at hP2
        simp (disch := omega) only [f_M_writesFrom_0, e1, e2, c2, hP2, e, bI_s, bV_s, bL_s, bR_s, bG_s, bG_n, bX_l, bX_r, ck_nI, nI_clamp, nI_leT, nI_leF, nI_ltT, nI_ltF, nI_eqF, nI_add, pk_mul, ofN, bt_e, or0, Nat.zero_add, Nat.add_zero, ↓reduceIte, if_true, if_false, Bool.false_eq_true, eq_self, li0, li1, li2, li3, li4, li5, li6, li7, li8, li9, li10, li11, li12, li14, li15, li16, li18, li19, li20, li23, li24, li25, li26, li27, li30, li31, li32, li36, li40, li41, li42, li43, li44, li45, li47, li48, li57, li59, li60, li91, li93, li96, li97, li100, li105, li122, li150, li200, li255, li400, li500, li600, li999, li1000, li1001, li2000, li2001, li2002, li2003, li2004, li2005, li2006, li32767, li100000, li_neg, li13, li17, li21, li22, li28, li29, li33, li34, li35, li37, li38, li39, li46, li49, li50, li51, li52, li53, li63, li80, li115, li160]
      · rw [n2 _ _ (by omega), gI_ne (Or.inl (by omega))]; exact hI.1 r h
      · rw [n2 _ _ (by omega), gI_ne (Or.inl (by omega))]; exact hI.2 k h
      · rw [n2 _ _ (by omega), gI_ne (Or.inl (by omega))]; exact hN i h
      · unfold fu; rw [if_pos c]
        refine ⟨?_, fun _ i h => ?_⟩
        · rw [n2 _ _ (by omega), gI_same, em_s]
        · rw [n3 i (by omega), gI_ne (Or.inl (by omega))]; exact hN i (by omega)
    · have c2 : ¬ em st.1 < nI L := by rw [em_le (by omega) (by omega)]; exact c
      refine ⟨N, ?_, FW.rf _ N, hI, hN, ?_⟩
      · show f_M_writesFrom_0 (f_M_writesFrom u) m g (nI b) (nI L) N = _
        simp (disch := omega) only [f_M_writesFrom_0, e1, e2, c2, bI_s, bV_s, bL_s, bR_s, bG_s, bG_n, bX_l, bX_r, ck_nI, nI_clamp, nI_leT, nI_leF, nI_ltT, nI_ltF, nI_eqF, nI_add, pk_mul, ofN, bt_e, or0, Nat.zero_add, Nat.add_zero, ↓reduceIte, if_true, if_false, Bool.false_eq_true, eq_self, li0, li1, li2, li3, li4, li5, li6, li7, li8, li9, li10, li11, li12, li14, li15, li16, li18, li19, li20, li23, li24, li25, li26, li27, li30, li31, li32, li36, li40, li41, li42, li43, li44, li45, li47, li48, li57, li59, li60, li91, li93, li96, li97, li100, li105, li122, li150, li200, li255, li400, li500, li600, li999, li1000, li1001, li2000, li2001, li2002, li2003, li2004, li2005, li2006, li32767, li100000, li_neg, li13, li17, li21, li22, li28, li29, li33, li34, li35, li37, li38, li39, li46, li49, li50, li51, li52, li53, li63, li80, li115, li160]
      · unfold fu; rw [if_neg c]; exact hT
  | succ d ih =>
    intro b room L now st N u hb hu hL hr hst hP hI hN hT
    obtain ⟨u, rfl⟩ : ∃ v, u = v + 1 := ⟨u - 1, by omega⟩
    have hL : L + (vz P g b + lz (vz P g) d (b + 1)) ≤ 1000 := hL
    have hlz : lz (vz P g) (d + 1) b = vz P g b + lz (vz P g) d (b + 1) := rfl
    have e1 : gI N (m + 496) b = nI (lz (vz P g) (d + 1) b) := by rw [hI.2 b (by omega), show P 0 2 - b = d + 1 by omega]
    have e2 := hT.1
    have g1 := gz_lz (v := vz P g) (R := P 0 0) (d + 1) b room
    by_cases c : st.1 ≤ L + lz (vz P g) (d + 1) b
    · have c2 : em st.1 < nI (L + lz (vz P g) (d + 1) b) := by rw [em_le (by omega) (by omega)]; exact c
      have e3 : f_M_writesFrom (u + 1) m g (nI b) (nI L) N = f_M_writesFrom_c (f_M_writesFrom u) FU m g (nI b) (nI L) (nI 0) N := by
        show f_M_writesFrom_0 (f_M_writesFrom u) m g (nI b) (nI L) N = _
        have hP2 := hP.2.1
        simp (disch := omega) only [f_M_writesFrom_0, e1, e2, c2, hP2, bI_s, bV_s, bL_s, bR_s, bG_s, bG_n, bX_l, bX_r, ck_nI, nI_clamp, nI_leT, nI_leF, nI_ltT, nI_ltF, nI_eqF, nI_add, pk_mul, ofN, bt_e, or0, Nat.zero_add, Nat.add_zero, ↓reduceIte, if_true, if_false, Bool.false_eq_true, eq_self, li0, li1, li2, li3, li4, li5, li6, li7, li8, li9, li10, li11, li12, li14, li15, li16, li18, li19, li20, li23, li24, li25, li26, li27, li30, li31, li32, li36, li40, li41, li42, li43, li44, li45, li47, li48, li57, li59, li60, li91, li93, li96, li97, li100, li105, li122, li150, li200, li255, li400, li500, li600, li999, li1000, li1001, li2000, li2001, li2002, li2003, li2004, li2005, li2006, li32767, li100000, li_neg, li13, li17, li21, li22, li28, li29, li33, li34, li35, li37, li38, li39, li46, li49, li50, li51, li52, li53, li63, li80, li115, li160]
      rw [e3]
      have hkl := fk_le (v := vz P g) (R := P 0 0) (d := d) (b := b) (room := room) (now := now) hst (show L + (vz P g b + lz (vz P g) d (b + 1)) < 1001 by omega)
      have hc : ∀ (i : Int32) (N1 : Mm), WQ N m b P g room now (fk (vz P g) (P 0 0) d b room L now st (P 0 0)) N1 → ∃ r, f_M_writesFrom_d (f_M_writesFrom u) m g (nI b) (nI L) i N1 = some r ∧ WQ N m b P g room now (fu (vz P g) (P 0 0) (d + 1) b room L now st) r := by
        intro i N1 hq
        obtain ⟨q1, q2, q3, q4⟩ := hq
        have q5 : FW m N (sI N1 (m + 493) b (nI 4294967295)) := q1.sI (by unfold wR; omega)
        have key := ih (b + 1) room L (uV now b (nI 4294967295)) (fk (vz P g) (P 0 0) d b room L now st (P 0 0)) (sI N1 (m + 493) b (nI 4294967295)) u (by omega) (by omega) (by omega) hr (hkl _) (hP.fw oP q5) ⟨fun r h => by rw [gI_ne (Or.inl (by omega))]; exact q2.1 r h, fun r h => by rw [gI_ne (Or.inl (by omega))]; exact q2.2 r h⟩ (fun j h => ?_) ⟨by rw [gI_ne (Or.inl (by omega))]; exact q4.1, fun h0 j h => by rw [gI_ne (Or.inl (by omega))]; exact q4.2 h0 j h⟩
        · obtain ⟨M', e, r1, r2, r3, r4⟩ := key
          refine ⟨M', ?_, q5.trans r1, r2, fun j h => ?_, ?_⟩
          · simp (disch := omega) only [f_M_writesFrom_d, e, bI_s, bV_s, bL_s, bR_s, bG_s, bG_n, bX_l, bX_r, ck_nI, nI_clamp, nI_leT, nI_leF, nI_ltT, nI_ltF, nI_eqF, nI_add, pk_mul, ofN, bt_e, or0, Nat.zero_add, Nat.add_zero, ↓reduceIte, if_true, if_false, Bool.false_eq_true, eq_self, li0, li1, li2, li3, li4, li5, li6, li7, li8, li9, li10, li11, li12, li14, li15, li16, li18, li19, li20, li23, li24, li25, li26, li27, li30, li31, li32, li36, li40, li41, li42, li43, li44, li45, li47, li48, li57, li59, li60, li91, li93, li96, li97, li100, li105, li122, li150, li200, li255, li400, li500, li600, li999, li1000, li1001, li2000, li2001, li2002, li2003, li2004, li2005, li2006, li32767, li100000, li_neg, li13, li17, li21, li22, li28, li29, li33, li34, li35, li37, li38, li39, li46, li49, li50, li51, li52, li53, li63, li80, li115, li160]
          · rw [r3 j (by omega)]; exact if_neg (by omega)
          · rw [fk_u]; exact r4
        · unfold uV
          by_cases q : j = b
          · rw [if_pos q, q, gI_same]
          · rw [if_neg q, gI_ne (Or.inr q)]; exact q3 j (by omega)
      refine lp_inv (fun w i (N1 : Mm) => f_M_writesFrom_c (f_M_writesFrom u) w m g (nI b) (nI L) (nI i) N1) (P 0 0) (fun i N1 => WQ N m b P g room now (fk (vz P g) (P 0 0) d b room L now st i) N1) (WQ N m b P g room now (fu (vz P g) (P 0 0) (d + 1) b room L now st)) ?_ ?_ 0 (by omega) N ⟨FW.rf _ N, hI, hN, hT⟩ FU (FU_lt (by omega))
      · intro w i N1 hi hq
        have q1 := hq.1
        have q2 := hq.2.1
        have hPN := hP.fw oP q1
        have hPr := hPN.1
        have hPl := hPN.2.2 b (by omega)
        have e4 := q2.1 i hi
        have b4 := hr i hi
        have hl1 := oP.len (show b < P 0 2 by omega)
        by_cases ch : hs g b = true
        · have v1 : vz P g b = P 3 b := if_pos ch
          left
          by_cases cf : P 3 b ≤ room i
          · have hft : ft (vz P g b) room i = true := ft_t.mpr ⟨by omega, by omega⟩
            have q5 : FW m N (sI (sI N1 (m + 493) b (nI i)) (m + 495) i (nI (room i - vz P g b))) := (q1.sI (by unfold wR; omega)).sI (by unfold wR; omega)
            have key := ih (b + 1) (uN room i (room i - vz P g b)) (L + vz P g b) (uV now b (nI i)) (fk (vz P g) (P 0 0) d b room L now st i) (sI (sI N1 (m + 493) b (nI i)) (m + 495) i (nI (room i - vz P g b))) u (by omega) (by omega) (by omega) (fun r h => ?_) (hkl _) (hP.fw oP q5) ⟨fun r h => ?_, fun k h => by rw [gI_ne (Or.inl (by omega)), gI_ne (Or.inl (by omega))]; exact q2.2 k h⟩ (fun j h => ?_) ⟨by rw [gI_ne (Or.inl (by omega)), gI_ne (Or.inl (by omega))]; exact hq.2.2.2.1, fun h0 j h => by rw [gI_ne (Or.inl (by omega)), gI_ne (Or.inl (by omega))]; exact hq.2.2.2.2 h0 j h⟩
            · obtain ⟨M', e, r1, r2, r3, r4⟩ := key
              have hP4 := (hP.fw oP (q5.trans r1)).2.2 b (by omega)
              have e6 : gI M' (m + 495) i = nI (room i - P 3 b) := by rw [r2.1 i hi]; unfold uN; rw [if_pos rfl, v1]
              have e7 : room i - P 3 b + P 3 b = room i := by omega
              refine ⟨sI M' (m + 495) i (nI (room i)), ?_, (q5.trans r1).sI (by unfold wR; omega), ⟨fun r h => ?_, fun k h => ?_⟩, fun j h => ?_, ?_⟩
              · have z := pk_sub (show P 3 b ≤ room i from cf)
                rw [v1] at e
                simp (disch := omega) only [f_M_writesFrom_c, hPr, hPl, M_hasT ch, e4, z, e, hP4, e6, e7, bI_s, bV_s, bL_s, bR_s, bG_s, bG_n, bX_l, bX_r, ck_nI, nI_clamp, nI_leT, nI_leF, nI_ltT, nI_ltF, nI_eqF, nI_add, pk_mul, ofN, bt_e, or0, Nat.zero_add, Nat.add_zero, ↓reduceIte, if_true, if_false, Bool.false_eq_true, eq_self, li0, li1, li2, li3, li4, li5, li6, li7, li8, li9, li10, li11, li12, li14, li15, li16, li18, li19, li20, li23, li24, li25, li26, li27, li30, li31, li32, li36, li40, li41, li42, li43, li44, li45, li47, li48, li57, li59, li60, li91, li93, li96, li97, li100, li105, li122, li150, li200, li255, li400, li500, li600, li999, li1000, li1001, li2000, li2001, li2002, li2003, li2004, li2005, li2006, li32767, li100000, li_neg, li13, li17, li21, li22, li28, li29, li33, li34, li35, li37, li38, li39, li46, li49, li50, li51, li52, li53, li63, li80, li115, li160, gI_same, gI_ne, gI_eq2, gR_sI, gL_sI, gI_sL, gR_sL, gI_sR, gL_sR]
              · by_cases q : r = i
                · rw [q, gI_same]
                · rw [gI_ne (Or.inr q), r2.1 r h]; unfold uN; rw [if_neg q]
              · rw [gI_ne (Or.inl (by omega))]; exact r2.2 k h
              · rw [gI_ne (Or.inl (by omega)), r3 j (by omega)]; exact if_neg (by omega)
              · rw [fk_y hft]
                exact ⟨by rw [gI_ne (Or.inl (by omega))]; exact r4.1, fun h0 j h => by rw [gI_ne (Or.inl (by omega))]; exact r4.2 h0 j h⟩
            · have := hr r h
              unfold uN
              split
              · omega
              · exact this
            · unfold uN
              by_cases q : r = i
              · rw [if_pos q, q, gI_same]
              · rw [if_neg q, gI_ne (Or.inr q), gI_ne (Or.inl (by omega))]; exact q2.1 r h
            · rw [gI_ne (Or.inl (by omega))]
              unfold uV
              by_cases q : j = b
              · rw [if_pos q, q, gI_same]
              · rw [if_neg q, gI_ne (Or.inr q)]; exact hq.2.2.1 j (by omega)
          · refine ⟨N1, ?_, by rw [fk_n (fun q => cf (by have := (ft_t.mp q).2; omega))]; exact hq⟩
            simp (disch := omega) only [f_M_writesFrom_c, hPr, hPl, M_hasT ch, e4, bI_s, bV_s, bL_s, bR_s, bG_s, bG_n, bX_l, bX_r, ck_nI, nI_clamp, nI_leT, nI_leF, nI_ltT, nI_ltF, nI_eqF, nI_add, pk_mul, ofN, bt_e, or0, Nat.zero_add, Nat.add_zero, ↓reduceIte, if_true, if_false, Bool.false_eq_true, eq_self, li0, li1, li2, li3, li4, li5, li6, li7, li8, li9, li10, li11, li12, li14, li15, li16, li18, li19, li20, li23, li24, li25, li26, li27, li30, li31, li32, li36, li40, li41, li42, li43, li44, li45, li47, li48, li57, li59, li60, li91, li93, li96, li97, li100, li105, li122, li150, li200, li255, li400, li500, li600, li999, li1000, li1001, li2000, li2001, li2002, li2003, li2004, li2005, li2006, li32767, li100000, li_neg, li13, li17, li21, li22, li28, li29, li33, li34, li35, li37, li38, li39, li46, li49, li50, li51, li52, li53, li63, li80, li115, li160]
        · right
          have v0 : vz P g b = 0 := if_neg ch
          obtain ⟨r, e, hr2⟩ := hc (nI i) N1 (by rw [fk_0 v0]; rw [fk_0 v0] at hq; exact hq)
          refine ⟨r, ?_, hr2⟩
          simp (disch := omega) only [f_M_writesFrom_c, hPr, M_hasF ch, e, bI_s, bV_s, bL_s, bR_s, bG_s, bG_n, bX_l, bX_r, ck_nI, nI_clamp, nI_leT, nI_leF, nI_ltT, nI_ltF, nI_eqF, nI_add, pk_mul, ofN, bt_e, or0, Nat.zero_add, Nat.add_zero, ↓reduceIte, if_true, if_false, Bool.false_eq_true, eq_self, li0, li1, li2, li3, li4, li5, li6, li7, li8, li9, li10, li11, li12, li14, li15, li16, li18, li19, li20, li23, li24, li25, li26, li27, li30, li31, li32, li36, li40, li41, li42, li43, li44, li45, li47, li48, li57, li59, li60, li91, li93, li96, li97, li100, li105, li122, li150, li200, li255, li400, li500, li600, li999, li1000, li1001, li2000, li2001, li2002, li2003, li2004, li2005, li2006, li32767, li100000, li_neg, li13, li17, li21, li22, li28, li29, li33, li34, li35, li37, li38, li39, li46, li49, li50, li51, li52, li53, li63, li80, li115, li160]
      · intro w N1 hq
        obtain ⟨r, e, hr2⟩ := hc (nI (P 0 0)) N1 hq
        refine ⟨r, ?_, hr2⟩
        have hPr := (hP.fw oP hq.1).1
        simp (disch := omega) only [f_M_writesFrom_c, hPr, e, bI_s, bV_s, bL_s, bR_s, bG_s, bG_n, bX_l, bX_r, ck_nI, nI_clamp, nI_leT, nI_leF, nI_ltT, nI_ltF, nI_eqF, nI_add, pk_mul, ofN, bt_e, or0, Nat.zero_add, Nat.add_zero, ↓reduceIte, if_true, if_false, Bool.false_eq_true, eq_self, li0, li1, li2, li3, li4, li5, li6, li7, li8, li9, li10, li11, li12, li14, li15, li16, li18, li19, li20, li23, li24, li25, li26, li27, li30, li31, li32, li36, li40, li41, li42, li43, li44, li45, li47, li48, li57, li59, li60, li91, li93, li96, li97, li100, li105, li122, li150, li200, li255, li400, li500, li600, li999, li1000, li1001, li2000, li2001, li2002, li2003, li2004, li2005, li2006, li32767, li100000, li_neg, li13, li17, li21, li22, li28, li29, li33, li34, li35, li37, li38, li39, li46, li49, li50, li51, li52, li53, li63, li80, li115, li160]
    · have c2 : ¬ em st.1 < nI (L + lz (vz P g) (d + 1) b) := by rw [em_le (by omega) (by omega)]; exact c
      refine ⟨N, ?_, FW.rf _ N, hI, hN, ?_⟩
      · show f_M_writesFrom_0 (f_M_writesFrom u) m g (nI b) (nI L) N = _
        simp (disch := omega) only [f_M_writesFrom_0, e1, e2, c2, bI_s, bV_s, bL_s, bR_s, bG_s, bG_n, bX_l, bX_r, ck_nI, nI_clamp, nI_leT, nI_leF, nI_ltT, nI_ltF, nI_eqF, nI_add, pk_mul, ofN, bt_e, or0, Nat.zero_add, Nat.add_zero, ↓reduceIte, if_true, if_false, Bool.false_eq_true, eq_self, li0, li1, li2, li3, li4, li5, li6, li7, li8, li9, li10, li11, li12, li14, li15, li16, li18, li19, li20, li23, li24, li25, li26, li27, li30, li31, li32, li36, li40, li41, li42, li43, li44, li45, li47, li48, li57, li59, li60, li91, li93, li96, li97, li100, li105, li122, li150, li200, li255, li400, li500, li600, li999, li1000, li1001, li2000, li2001, li2002, li2003, li2004, li2005, li2006, li32767, li100000, li_neg, li13, li17, li21, li22, li28, li29, li33, li34, li35, li37, li38, li39, li46, li49, li50, li51, li52, li53, li63, li80, li115, li160]
      · rw [fu_id _ _ _ _ _ _ (by omega)]; exact hT
end
