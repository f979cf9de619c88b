/-! # functional level, 10: what holds between calls -/
/-- the numbers of a state: port, wall, the rest (X 0 0 tape, 1 fault, 2 refused steps, 3 no such, 4 illegal, 5 works, 6 images, 7 law, 8 deeds; X 1 bytes, X 2 codes, X 3 acts, X 4 done), walls before, images -/
abbrev St : Type := TT × TT × TT × (Nat → TT) × (Nat → Nat → TT)
/-- a row of the model -/
def isNr (R : Nat → Int32) (P W : TT) : Prop := (R 22 = nI (W 0 0) ∧ R 24 = nI (W 0 1) ∧ R 23 = nI (W 0 2)) ∧ (∀ k, k < W 0 2 → R (25 + 4 * k) = nI (W 1 k) ∧ R (25 + 4 * k + 1) = nI (W 2 k) ∧ R (25 + 4 * k + 2) = nI (W 3 k) ∧ R (25 + 4 * k + 3) = nI (W 4 k)) ∧ (∀ k, k < P 0 2 → R k = nI (W 5 k) ∧ R (8 + k) = nI (W 6 k)) ∧ (∀ k, k < P 0 5 → R (16 + k) = nI (W 7 k))
theorem isNr_e (M : Mm) (a : Nat) (P W : TT) : isN M a P W ↔ isNr (gI M a) P W := Iff.rfl
theorem isNr.cg {R R' : Nat → Int32} {P W : TT} (h : isNr R P W) (oP : okP P) (oW : okW P W) (e : ∀ k, k < 105 → R' k = R k) : isNr R' P W := by
  obtain ⟨⟨q1, q2, q3⟩, h4, h5, h6⟩ := h
  have hB := oP.b
  have hW := oP.w
  have hL := oW.l
  refine ⟨⟨by rw [e _ (by omega)]; exact q1, by rw [e _ (by omega)]; exact q2, by rw [e _ (by omega)]; exact q3⟩, fun k hk => ⟨?_, ?_, ?_, ?_⟩, fun k hk => ⟨?_, ?_⟩, fun k hk => ?_⟩
  · rw [e _ (by omega)]; exact (h4 k hk).1
  · rw [e _ (by omega)]; exact (h4 k hk).2.1
  · rw [e _ (by omega)]; exact (h4 k hk).2.2.1
  · rw [e _ (by omega)]; exact (h4 k hk).2.2.2
  · rw [e _ (by omega)]; exact (h5 k hk).1
  · rw [e _ (by omega)]; exact (h5 k hk).2
  · rw [e _ (by omega)]; exact h6 k hk
/-- deeds of the class: the acts done, the acts not done -/
def dY (n : Nat) (A B : Nat → Nat) (v : Nat) : Int32 := fo n (fun k s => if decide (B k = v) = true then s ||| bt (A k) else s) (nI 0)
/-- where the walls of the past may lie -/
def fw (o : Nat) (M : Mm) (w n : Nat) : Prop := o + 561 ≤ w ∧ w + n ≤ nx M
/-- the class's scratch -/
def scr (o a : Nat) : Prop := (o + 19 ≤ a ∧ a < o + 37) ∨ a = o + 55 ∨ a = o + 58
def cfree (o a : Nat) : Prop := scr o a ∨ (o + 61 ≤ a ∧ a < o + 561)
/-- the class's cells that its texts use -/
def CIt (M : Mm) (o : Nat) (X : TT) : Prop := (gI M (o + 1) 1 = nI (X 0 0) ∧ gI M (o + 1) 5 = nI (X 0 1)) ∧ (∀ k, k < X 0 0 → gI M (o + 2) k = nI (X 1 k)) ∧ (gI M o 16 = nI (X 0 2) ∧ gI M o 17 = nI (X 0 3) ∧ gI M o 18 = nI (X 0 4)) ∧ gI M (o + 16) 1 = nI (X 0 5) ∧ gI M (o + 16) 3 = nI (X 0 6)
def CIv (M : Mm) (o : Nat) (P X : TT) (V : Nat → TT) : Prop := ∀ i, i < X 0 5 → ∃ w, gR M (o + 17) i = some w ∧ fw o M w 8 ∧ isW M w P (V i)
def CIi (M : Mm) (o : Nat) (P X : TT) (I : Nat → Nat → TT) : Prop := ∀ j, j < X 0 6 → ∃ g, gR M (o + 18) j = some g ∧ fw o M g 10 ∧ isW M (g + 1) P (I j 0) ∧ gI M g 1 = nI (I j 1 0 0) ∧ ∀ i, i < I j 1 0 0 → ∃ w, gR M (g + 9) i = some w ∧ fw o M w 8 ∧ isW M w P (I j (2 + i))
def CIr (M : Mm) (o p l d : Nat) : Prop := ((p = o + 37 ∨ p = o + 45) ∧ (l = o + 53 ∨ l = o + 56) ∧ (d = o + 59 ∨ d = o + 60)) ∧ (gR M o 10 = some p ∧ gR M o 11 = some (2 * o + 82 - p)) ∧ (gR M o 12 = some l ∧ gR M o 13 = some (2 * o + 109 - l)) ∧ gR M o 14 = some d ∧ gR M o 15 = some (2 * o + 119 - d)
def isD (M : Mm) (d n : Nat) (A B : Nat → Nat) : Prop := gI M d 0 = dY n A B 1 ∧ gI M d 1 = dY n A B 0
def CI (M : Mm) (o : Nat) (S : St) : Prop := ∃ p l d, CIr M o p l d ∧ (isP M p S.1 ∧ isW M (o + 8) S.1 S.2.1) ∧ CIt M o S.2.2.1 ∧ (isLw M l (S.2.2.1 0 7) (S.2.2.1 2) ∧ isD M d (S.2.2.1 0 8) (S.2.2.1 3) (S.2.2.1 4)) ∧ CIv M o S.1 S.2.2.1 S.2.2.2.1 ∧ CIi M o S.1 S.2.2.1 S.2.2.2.2
/-- the model's -/
def MIt (M : Mm) (m : Nat) (X : TT) : Prop := (gI M m 1 = nI (X 0 0) ∧ gI M m 3 = nI (X 0 1)) ∧ (∀ k, k < X 0 0 → gI M (m + 1) k = nI (X 1 k)) ∧ (gI M m 39 = nI (X 0 2) ∧ gI M (m + 2) 0 = nI (X 0 3) ∧ gI M (m + 2) 1 = nI (X 0 4)) ∧ gI M m 38 = nI (X 0 5) ∧ gI M m 40 = nI (X 0 6)
def MId (M : Mm) (m n : Nat) (A B : Nat → Nat) : Prop := gI M m 37 = nI n ∧ ∀ k, k < n → gI M (m + 365 + 1 + k) 0 = nI (A k) ∧ gI M (m + 365 + 1 + k) 1 = nI (B k)
def MIv (M : Mm) (m : Nat) (P X : TT) (V : Nat → TT) : Prop := ∀ i, i < X 0 5 → isN M (m + 472 + 1 + i) P (V i)
def MIi (M : Mm) (m : Nat) (P X : TT) (I : Nat → Nat → TT) : Prop := ∀ j, j < X 0 6 → gI M (m + 489 + 1 + j) 0 = nI (I j 1 0 0) ∧ isNr (fun k => gI M (m + 489 + 1 + j) (1 + k)) P (I j 0) ∧ ∀ i, i < I j 1 0 0 → isNr (fun k => gI M (m + 489 + 1 + j) (106 + 105 * i + k)) P (I j (2 + i))
def MJ (M : Mm) (m : Nat) (S : St) : Prop := (isQ M m S.1 ∧ isN M (m + 470) S.1 S.2.1) ∧ MIt M m S.2.2.1 ∧ (isK M m (S.2.2.1 0 7) (S.2.2.1 2) ∧ MId M m (S.2.2.1 0 8) (S.2.2.1 3) (S.2.2.1 4)) ∧ MIv M m S.1 S.2.2.1 S.2.2.2.1 ∧ MIi M m S.1 S.2.2.1 S.2.2.2.2
/-- a wall as it may be -/
def okD (P W : TT) : Prop := okW P W ∧ W 0 0 ≤ 500
def oS (S : St) : Prop := (okP S.1 ∧ okD S.1 S.2.1) ∧ ((S.2.2.1 0 0 ≤ 600 ∧ ∀ k, k < S.2.2.1 0 0 → S.2.2.1 1 k < 256) ∧ okK (S.2.2.1 0 7) (S.2.2.1 2)) ∧ (S.2.2.1 0 8 ≤ 10 ∧ (∀ k, k < S.2.2.1 0 8 → S.2.2.1 3 k < 10 ∧ S.2.2.1 4 k ≤ 1) ∧ ∀ i k, i < k → k < S.2.2.1 0 8 → S.2.2.1 3 i ≠ S.2.2.1 3 k) ∧ (S.2.2.1 0 5 ≤ 16 ∧ ∀ i, i < S.2.2.1 0 5 → okD S.1 (S.2.2.2.1 i)) ∧ S.2.2.1 0 6 ≤ 3 ∧ ∀ j, j < S.2.2.1 0 6 → okD S.1 (S.2.2.2.2 j 0) ∧ S.2.2.2.2 j 1 0 0 ≤ 16 ∧ ∀ i, i < S.2.2.2.2 j 1 0 0 → okD S.1 (S.2.2.2.2 j (2 + i))
def kz (M : Mm) : Prop := ∀ a, nx M ≤ a → (kd M a).1 = 0
def InvS (o : Nat) (M : Mm) (S : St) : Prop := CI M o S ∧ MJ M (o + 61) S ∧ oS S ∧ o + 561 ≤ nx M ∧ kz M
def Inv (o : Nat) (M : Mm) : Prop := ∃ S, InvS o M S
/-- the model's scratch -/
def scM (m a j : Nat) : Prop := (a = m + 387 ∨ a = m + 388 ∨ a = m + 471 ∨ (m + 493 ≤ a ∧ a < m + 499)) ∨ a = m ∧ (j = 0 ∨ (4 ≤ j ∧ j < 9) ∨ j = 2 ∨ j = 24 ∨ j = 32 ∨ (41 ≤ j))
section
variable {M M' : Mm} {o m : Nat} {S : St} {P W X : TT} {V : Nat → TT} {I : Nat → Nat → TT}
/-- cells as before but for D -/
def eqx (D : Nat → Prop) (M M' : Mm) : Prop := nx M ≤ nx M' ∧ ∀ a, a < nx M → ¬ D a → (∀ j, gI M' a j = gI M a j) ∧ ∀ j, gR M' a j = gR M a j
theorem Fr.eqx {D E : Nat → Prop} (h : Fr D M M') (hs : ∀ a, D a → E a) : eqx E M M' := ⟨by rw [h.1.1]; exact Nat.le_refl _, fun a _ hd => ⟨(h.2 a (fun z => hd (hs a z))).1, (h.2 a (fun z => hd (hs a z))).2.2⟩⟩
theorem isW.eqx {D : Nat → Prop} {w : Nat} (h : isW M w P W) (e : eqx D M M') (hd : ∀ a, w ≤ a → a < w + 8 → a < nx M ∧ ¬ D a) : isW M' w P W := by
  obtain ⟨⟨h1, h2, h3⟩, h4, h5, h6⟩ := h
  have g : ∀ i, i < 8 → ∀ j, gI M' (w + i) j = gI M (w + i) j := fun i hi j => (e.2 _ (hd _ (by omega) (by omega)).1 (hd _ (by omega) (by omega)).2).1 j
  have g0 := g 0 (by omega)
  refine ⟨⟨by rw [← h1]; exact g0 0, by rw [← h2]; exact g0 1, by rw [← h3]; exact g0 2⟩, fun k hk => ⟨?_, ?_, ?_, ?_⟩, fun k hk => ⟨?_, ?_⟩, fun k hk => ?_⟩
  · rw [g 1 (by omega)]; exact (h4 k hk).1
  · rw [g 2 (by omega)]; exact (h4 k hk).2.1
  · rw [g 3 (by omega)]; exact (h4 k hk).2.2.1
  · rw [g 4 (by omega)]; exact (h4 k hk).2.2.2
  · rw [g 5 (by omega)]; exact (h5 k hk).1
  · rw [g 6 (by omega)]; exact (h5 k hk).2
  · rw [g 7 (by omega)]; exact h6 k hk
theorem isP.eqx {D : Nat → Prop} {w : Nat} (h : isP M w P) (e : eqx D M M') (hd : ∀ a, w ≤ a → a < w + 8 → a < nx M ∧ ¬ D a) : isP M' w P := by
  obtain ⟨⟨h1, h2, h3⟩, h4, h5, h6, h7⟩ := h
  have g : ∀ i, i < 8 → ∀ j, gI M' (w + i) j = gI M (w + i) j := fun i hi j => (e.2 _ (hd _ (by omega) (by omega)).1 (hd _ (by omega) (by omega)).2).1 j
  have g0 := g 0 (by omega)
  refine ⟨⟨by rw [← h1]; exact g0 0, by rw [← h2]; exact g0 2, by rw [← h3]; exact g0 5⟩, fun k hk => ?_, fun k hk => ⟨?_, ?_⟩, fun k hk => ⟨?_, ?_, ?_⟩, fun k hk => ?_⟩
  · rw [g 1 (by omega)]; exact h4 k hk
  · rw [g 2 (by omega)]; exact (h5 k hk).1
  · rw [g 3 (by omega)]; exact (h5 k hk).2
  · rw [g 4 (by omega)]; exact (h6 k hk).1
  · rw [g 5 (by omega)]; exact (h6 k hk).2.1
  · rw [g 6 (by omega)]; exact (h6 k hk).2.2
  · rw [g 7 (by omega)]; exact h7 k hk
theorem fw.mv {w n : Nat} (h : fw o M w n) (e : nx M ≤ nx M') : fw o M' w n := ⟨h.1, Nat.le_trans h.2 e⟩
/-- what lies far away stays -/
theorem CIv.mv {D : Nat → Prop} (h : CIv M o P X V) (e : eqx D M M') (hn : o + 561 ≤ nx M) (h1 : ¬ D (o + 17)) (hD : ∀ a, o + 561 ≤ a → ¬ D a) : CIv M' o P X V := by
  intro i hi
  obtain ⟨w, q1, q2, q3⟩ := h i hi
  have q4 := q2.1
  have q5 := q2.2
  exact ⟨w, by rw [(e.2 _ (by omega) h1).2]; exact q1, q2.mv e.1, q3.eqx e (fun a ha hb => ⟨by omega, hD a (by omega)⟩)⟩
theorem CIi.mv {D : Nat → Prop} (h : CIi M o P X I) (e : eqx D M M') (hn : o + 561 ≤ nx M) (h1 : ¬ D (o + 18)) (hD : ∀ a, o + 561 ≤ a → ¬ D a) : CIi M' o P X I := by
  intro j hj
  obtain ⟨g, q1, q2, q3, q4, q5⟩ := h j hj
  have z4 := q2.1
  have z5 := q2.2
  refine ⟨g, by rw [(e.2 _ (by omega) h1).2]; exact q1, q2.mv e.1, q3.eqx e (fun a ha hb => ⟨by omega, hD a (by omega)⟩), ?_, fun i hi => ?_⟩
  · rw [(e.2 _ (by omega) (hD _ (by omega))).1]; exact q4
  · obtain ⟨w, y1, y2, y3⟩ := q5 i hi
    have z6 := y2.1
    have z7 := y2.2
    exact ⟨w, by rw [(e.2 _ (by omega) (hD _ (by omega))).2]; exact y1, y2.mv e.1, y3.eqx e (fun a ha hb => ⟨by omega, hD a (by omega)⟩)⟩
theorem CIr.mv {D : Nat → Prop} {p l d : Nat} (h : CIr M o p l d) (e : eqx D M M') (hn : o < nx M) (h1 : ¬ D o) : CIr M' o p l d := by
  have g := (e.2 o hn h1).2
  unfold CIr at h ⊢
  rw [g, g, g, g, g, g]; exact h
theorem CI.mv {D : Nat → Prop} (h : CI M o S) (e : eqx D M M') (hn : o + 561 ≤ nx M) (hD : ∀ a, D a → cfree o a) : CI M' o S := by
  obtain ⟨p, l, d, hr, ⟨h1, h2⟩, ⟨⟨t1, t2⟩, t3, ⟨t4, t5, t6⟩, t7, t8⟩, ⟨h5, h6⟩, h7, h8⟩ := h
  have hp := hr.1.1
  have hl := hr.1.2.1
  have hd := hr.1.2.2
  have nf : ∀ a, ¬ cfree o a → ¬ D a := fun a ha z => ha (hD a z)
  have g : ∀ a, a < o + 61 → ¬ scr o a → ∀ j, gI M' a j = gI M a j := fun a ha hs j => (e.2 a (by omega) (nf a (fun z => by rcases z with z | z; exact hs z; omega))).1 j
  have far : ∀ a, o + 561 ≤ a → ¬ D a := fun a ha => nf a (fun z => by unfold cfree scr at z; omega)
  refine ⟨p, l, d, hr.mv e (by omega) (nf _ (by unfold cfree scr; omega)), ⟨h1.eqx e (fun a ha hb => ⟨by omega, nf _ (by unfold cfree scr; omega)⟩), h2.eqx e (fun a ha hb => ⟨by omega, nf _ (by unfold cfree scr; omega)⟩)⟩, ⟨⟨?_, ?_⟩, fun k hk => ?_, ⟨?_, ?_, ?_⟩, ?_, ?_⟩, ⟨?_, ?_, ?_⟩, h7.mv e hn (nf _ (by unfold cfree scr; omega)) far, h8.mv e hn (nf _ (by unfold cfree scr; omega)) far⟩
  · rw [g _ (by omega) (by unfold scr; omega)]; exact t1
  · rw [g _ (by omega) (by unfold scr; omega)]; exact t2
  · rw [g _ (by omega) (by unfold scr; omega)]; exact t3 k hk
  · rw [g _ (by omega) (by unfold scr; omega)]; exact t4
  · rw [g _ (by omega) (by unfold scr; omega)]; exact t5
  · rw [g _ (by omega) (by unfold scr; omega)]; exact t6
  · rw [g _ (by omega) (by unfold scr; omega)]; exact t7
  · rw [g _ (by omega) (by unfold scr; omega)]; exact t8
  · unfold isLw isL at h5 ⊢
    rw [g l (by omega) (by unfold scr; omega)]
    by_cases c : S.2.2.1 0 7 = 0
    · rw [if_pos c] at h5 ⊢
      exact ⟨h5.1, fun k hk => by rw [g _ (by omega) (by unfold scr; omega)]; exact h5.2 k hk⟩
    · rw [if_neg c] at h5 ⊢
      exact ⟨h5.1, fun k hk => by rw [g _ (by omega) (by unfold scr; omega)]; exact h5.2 k hk⟩
  · rw [g _ (by omega) (by unfold scr; omega)]; exact h6.1
  · rw [g _ (by omega) (by unfold scr; omega)]; exact h6.2
theorem MJ.mv (h : MJ M m S) (o0 : oS S) (e : ∀ a j, m ≤ a → a < m + 499 → ¬ scM m a j → gI M' a j = gI M a j) : MJ M' m S := by
  obtain ⟨⟨h1, h2⟩, ⟨⟨t1, t2⟩, t3, ⟨t4, t5, t6⟩, t7, t8⟩, ⟨h5, h6⟩, h7, h8⟩ := h
  obtain ⟨⟨oP, oW⟩, ⟨_, oK⟩, ⟨o1, _⟩, ⟨o2, o5⟩, o3, o4⟩ := o0
  have hB := oP.b
  have hW := oP.w
  have hn := oK.1
  refine ⟨⟨⟨⟨?_, ?_, ?_⟩, fun k hk => ?_, fun k hk => ⟨?_, ?_⟩, fun k hk => ⟨?_, ?_, ?_⟩, fun k hk => ?_⟩, ?_⟩, ⟨⟨?_, ?_⟩, fun k hk => ?_, ⟨?_, ?_, ?_⟩, ?_, ?_⟩, ⟨⟨?_, fun k hk => ⟨?_, ?_⟩⟩, ?_, fun k hk => ⟨?_, ?_⟩⟩, fun i hi => ?_, fun j hj => ⟨?_, ?_, fun i hi => ?_⟩⟩
  · rw [e _ _ (by omega) (by omega) (by unfold scM; omega)]; exact h1.1.1
  · rw [e _ _ (by omega) (by omega) (by unfold scM; omega)]; exact h1.1.2.1
  · rw [e _ _ (by omega) (by omega) (by unfold scM; omega)]; exact h1.1.2.2
  · rw [e _ _ (by omega) (by omega) (by unfold scM; omega)]; exact h1.wide hk
  · rw [e _ _ (by omega) (by omega) (by unfold scM; omega)]; exact h1.act hk
  · rw [e _ _ (by omega) (by omega) (by unfold scM; omega)]; exact h1.len hk
  · rw [e _ _ (by omega) (by omega) (by unfold scM; omega)]; exact h1.rch hk
  · rw [e _ _ (by omega) (by omega) (by unfold scM; omega)]; exact h1.chk hk
  · rw [e _ _ (by omega) (by omega) (by unfold scM; omega)]; exact h1.kn hk
  · rw [e _ _ (by omega) (by omega) (by unfold scM; omega)]; exact h1.kin hk
  · exact isNr.cg h2 oP oW.1 (fun k _ => e _ _ (by omega) (by omega) (by unfold scM; omega))
  · rw [e _ _ (by omega) (by omega) (by unfold scM; omega)]; exact t1
  · rw [e _ _ (by omega) (by omega) (by unfold scM; omega)]; exact t2
  · rw [e _ _ (by omega) (by omega) (by unfold scM; omega)]; exact t3 k hk
  · rw [e _ _ (by omega) (by omega) (by unfold scM; omega)]; exact t4
  · rw [e _ _ (by omega) (by omega) (by unfold scM; omega)]; exact t5
  · rw [e _ _ (by omega) (by omega) (by unfold scM; omega)]; exact t6
  · rw [e _ _ (by omega) (by omega) (by unfold scM; omega)]; exact t7
  · rw [e _ _ (by omega) (by omega) (by unfold scM; omega)]; exact t8
  · rw [e _ _ (by omega) (by omega) (by unfold scM; omega)]; exact h5.1
  · rw [e _ _ (by omega) (by omega) (by unfold scM; omega)]; exact (h5.2 k hk).1
  · rw [e _ _ (by omega) (by omega) (by unfold scM; omega)]; exact (h5.2 k hk).2
  · rw [e _ _ (by omega) (by omega) (by unfold scM; omega)]; exact h6.1
  · rw [e _ _ (by omega) (by omega) (by unfold scM; omega)]; exact (h6.2 k hk).1
  · rw [e _ _ (by omega) (by omega) (by unfold scM; omega)]; exact (h6.2 k hk).2
  · exact isNr.cg (h7 i hi) oP (o5 i hi).1 (fun k _ => e _ _ (by omega) (by omega) (by unfold scM; omega))
  · rw [e _ _ (by omega) (by omega) (by unfold scM; omega)]; exact (h8 j hj).1
  · exact isNr.cg (h8 j hj).2.1 oP (o4 j hj).1.1 (fun k _ => e _ _ (by omega) (by omega) (by unfold scM; omega))
  · exact isNr.cg ((h8 j hj).2.2 i hi) oP ((o4 j hj).2.2 i hi).1 (fun k _ => e _ _ (by omega) (by omega) (by unfold scM; omega))
end
