/-! # functional level, 6: frames; what changes a wall, as tables -/
theorem li13 : (13 : Int32) = nI 13 := id rfl
theorem li17 : (17 : Int32) = nI 17 := id rfl
theorem li21 : (21 : Int32) = nI 21 := id rfl
theorem li22 : (22 : Int32) = nI 22 := id rfl
theorem li28 : (28 : Int32) = nI 28 := id rfl
theorem li29 : (29 : Int32) = nI 29 := id rfl
theorem li33 : (33 : Int32) = nI 33 := id rfl
theorem li34 : (34 : Int32) = nI 34 := id rfl
theorem li35 : (35 : Int32) = nI 35 := id rfl
theorem li37 : (37 : Int32) = nI 37 := id rfl
theorem li38 : (38 : Int32) = nI 38 := id rfl
theorem li39 : (39 : Int32) = nI 39 := id rfl
theorem li46 : (46 : Int32) = nI 46 := id rfl
theorem li49 : (49 : Int32) = nI 49 := id rfl
theorem li50 : (50 : Int32) = nI 50 := id rfl
theorem li51 : (51 : Int32) = nI 51 := id rfl
theorem li52 : (52 : Int32) = nI 52 := id rfl
theorem li53 : (53 : Int32) = nI 53 := id rfl
theorem li63 : (63 : Int32) = nI 63 := id rfl
theorem li80 : (80 : Int32) = nI 80 := id rfl
theorem li115 : (115 : Int32) = nI 115 := id rfl
theorem li160 : (160 : Int32) = nI 160 := id rfl
def rg (b n a : Nat) : Prop := b ≤ a ∧ a < b + n
/-- nothing has changed outside D -/
def Fr (D : Nat → Prop) (M M' : Mm) : Prop := (nx M' = nx M ∧ kd M' = kd M) ∧ ∀ a, ¬ D a → (∀ j, gI M' a j = gI M a j) ∧ (∀ j, gL M' a j = gL M a j) ∧ ∀ j, gR M' a j = gR M a j
section
variable {D E : Nat → Prop} {M M1 M2 M' : Mm}
theorem Fr.rf (D : Nat → Prop) (M : Mm) : Fr D M M := ⟨⟨rfl, rfl⟩, fun _ _ => ⟨fun _ => rfl, fun _ => rfl, fun _ => rfl⟩⟩
theorem Fr.trans (h : Fr D M M1) (h2 : Fr D M1 M2) : Fr D M M2 :=
  ⟨⟨h2.1.1.trans h.1.1, h2.1.2.trans h.1.2⟩, fun a ha => ⟨fun j => ((h2.2 a ha).1 j).trans ((h.2 a ha).1 j), fun j => ((h2.2 a ha).2.1 j).trans ((h.2 a ha).2.1 j), fun j => ((h2.2 a ha).2.2 j).trans ((h.2 a ha).2.2 j)⟩⟩
theorem Fr.mono (h : Fr D M M') (hs : ∀ a, D a → E a) : Fr E M M' := ⟨h.1, fun a ha => h.2 a (fun hd => ha (hs a hd))⟩
theorem Fr.sI (h : Fr D M M1) {a j : Nat} {v : Int32} (ha : D a) : Fr D M (sI M1 a j v) :=
  ⟨h.1, fun b hb => ⟨fun i => by rw [gI_ne (Or.inl (show b ≠ a from fun e => hb (by rw [e]; exact ha)))]; exact (h.2 b hb).1 i, (h.2 b hb).2.1, (h.2 b hb).2.2⟩⟩
theorem Fr.sL (h : Fr D M M1) {a j : Nat} {v : Int64} (ha : D a) : Fr D M (sL M1 a j v) :=
  ⟨h.1, fun b hb => ⟨(h.2 b hb).1, fun i => by rw [gL_ne (Or.inl (show b ≠ a from fun e => hb (by rw [e]; exact ha)))]; exact (h.2 b hb).2.1 i, (h.2 b hb).2.2⟩⟩
theorem Fr.sR (h : Fr D M M1) {a j : Nat} {v : Option Nat} (ha : D a) : Fr D M (sR M1 a j v) :=
  ⟨h.1, fun b hb => ⟨(h.2 b hb).1, (h.2 b hb).2.1, fun i => by rw [gR_ne (Or.inl (show b ≠ a from fun e => hb (by rw [e]; exact ha)))]; exact (h.2 b hb).2.2 i⟩⟩
theorem Fr.sCi (h : Fr D M M1) {a b s d n : Nat} (ha : D b) : Fr D M (sCi M1 a b s d n) :=
  ⟨h.1, fun c hc => ⟨fun i => by rw [gI_sCi, if_neg (show ¬ c = b from fun e => hc (by rw [e]; exact ha))]; exact (h.2 c hc).1 i, (h.2 c hc).2.1, (h.2 c hc).2.2⟩⟩
theorem Fr.sCl (h : Fr D M M1) {a b s d n : Nat} (ha : D b) : Fr D M (sCl M1 a b s d n) :=
  ⟨h.1, fun c hc => ⟨(h.2 c hc).1, fun i => by rw [gL_sCl, if_neg (show ¬ c = b from fun e => hc (by rw [e]; exact ha))]; exact (h.2 c hc).2.1 i, (h.2 c hc).2.2⟩⟩
theorem Fr.i (h : Fr D M M') {a : Nat} (ha : ¬ D a) (j : Nat) : gI M' a j = gI M a j := (h.2 a ha).1 j
theorem Fr.l (h : Fr D M M') {a : Nat} (ha : ¬ D a) (j : Nat) : gL M' a j = gL M a j := (h.2 a ha).2.1 j
theorem Fr.r (h : Fr D M M') {a : Nat} (ha : ¬ D a) (j : Nat) : gR M' a j = gR M a j := (h.2 a ha).2.2 j
variable {P W : TT} {p m o a : Nat}
theorem isP.fr (h : isP M p P) (f : Fr D M M') (hd : ∀ x, p ≤ x → x < p + 8 → ¬ D x) : isP M' p P := by
  obtain ⟨⟨h1, h2, h3⟩, h4, h5, h6, h7⟩ := h
  have g : ∀ i, i < 8 → ∀ j, gI M' (p + i) j = gI M (p + i) j := fun i hi j => f.i (hd _ (by omega) (by omega)) j
  have g0 := g 0 (by omega)
  refine ⟨⟨by rw [← h1]; exact g0 0, by rw [← h2]; exact g0 2, by rw [← h3]; exact g0 5⟩, fun k hk => ?_, fun k hk => ⟨?_, ?_⟩, fun k hk => ⟨?_, ?_, ?_⟩, fun k hk => ?_⟩
  · rw [g 1 (by omega)]; exact h4 k hk
  · rw [g 2 (by omega)]; exact (h5 k hk).1
  · rw [g 3 (by omega)]; exact (h5 k hk).2
  · rw [g 4 (by omega)]; exact (h6 k hk).1
  · rw [g 5 (by omega)]; exact (h6 k hk).2.1
  · rw [g 6 (by omega)]; exact (h6 k hk).2.2
  · rw [g 7 (by omega)]; exact h7 k hk
theorem isW.fr (h : isW M o P W) (f : Fr D M M') (hd : ∀ x, o ≤ x → x < o + 8 → ¬ D x) : isW M' o P W := by
  obtain ⟨⟨h1, h2, h3⟩, h4, h5, h6⟩ := h
  have g : ∀ i, i < 8 → ∀ j, gI M' (o + i) j = gI M (o + i) j := fun i hi j => f.i (hd _ (by omega) (by omega)) j
  have g0 := g 0 (by omega)
  refine ⟨⟨by rw [← h1]; exact g0 0, by rw [← h2]; exact g0 1, by rw [← h3]; exact g0 2⟩, fun k hk => ⟨?_, ?_, ?_, ?_⟩, fun k hk => ⟨?_, ?_⟩, fun k hk => ?_⟩
  · rw [g 1 (by omega)]; exact (h4 k hk).1
  · rw [g 2 (by omega)]; exact (h4 k hk).2.1
  · rw [g 3 (by omega)]; exact (h4 k hk).2.2.1
  · rw [g 4 (by omega)]; exact (h4 k hk).2.2.2
  · rw [g 5 (by omega)]; exact (h5 k hk).1
  · rw [g 6 (by omega)]; exact (h5 k hk).2
  · rw [g 7 (by omega)]; exact h6 k hk
/-- where the model keeps its port -/
def qrg (m x : Nat) : Prop := (x = m + 4 ∨ x = m + 6) ∨ (x = m + 8 ∨ x = m + 10) ∨ (m + 20 ≤ x ∧ x < m + 29) ∨ m + 36 ≤ x ∧ x < m + 43
theorem isQ.fr (h : isQ M m P) (oP : okP P) (f : Fr D M M') (hd : ∀ x, qrg m x → ¬ D x) : isQ M' m P := by
  obtain ⟨⟨h1, h2, h3⟩, h4, h5, h6, h7⟩ := h
  have hB := oP.b
  have hW := oP.w
  have g : ∀ x, qrg m x → ∀ j, gI M' x j = gI M x j := fun x hx j => f.i (hd x hx) j
  have g0 := g (m + 4) (Or.inl (Or.inl rfl))
  refine ⟨⟨by rw [← h1]; exact g0 0, by rw [← h2]; exact g0 1, by rw [← h3]; exact g0 2⟩, fun k hk => ?_, fun k hk => ⟨?_, ?_⟩, fun k hk => ⟨?_, ?_, ?_⟩, fun k hk => ?_⟩
  · rw [g _ (Or.inl (Or.inr rfl))]; exact h4 k hk
  · rw [g _ (Or.inr (Or.inr (Or.inl (by omega))))]; exact (h5 k hk).1
  · rw [g _ (Or.inr (Or.inr (Or.inl (by omega))))]; exact (h5 k hk).2
  · rw [g _ (Or.inr (Or.inr (Or.inr (by omega))))]; exact (h6 k hk).1
  · rw [g _ (Or.inr (Or.inr (Or.inr (by omega))))]; exact (h6 k hk).2.1
  · rw [g _ (Or.inr (Or.inl (Or.inr rfl)))]; exact (h6 k hk).2.2
  · rw [g _ (Or.inr (Or.inl (Or.inl rfl)))]; exact h7 k hk
theorem isN.fr (h : isN M a P W) (f : Fr D M M') (hd : ¬ D a) : isN M' a P W := by
  obtain ⟨⟨h1, h2, h3⟩, h4, h5, h6⟩ := h
  have g := f.i hd
  refine ⟨⟨by rw [g]; exact h1, by rw [g]; exact h2, by rw [g]; exact h3⟩, fun k hk => ⟨?_, ?_, ?_, ?_⟩, fun k hk => ⟨?_, ?_⟩, fun k hk => ?_⟩
  · rw [g]; exact (h4 k hk).1
  · rw [g]; exact (h4 k hk).2.1
  · rw [g]; exact (h4 k hk).2.2.1
  · rw [g]; exact (h4 k hk).2.2.2
  · rw [g]; exact (h5 k hk).1
  · rw [g]; exact (h5 k hk).2
  · rw [g]; exact h6 k hk
/-- the same cells elsewhere: a copy -/
theorem isW.cpy {b : Nat} (h : isW M o P W) (oP : okP P) (oW : okW P W) (h0 : ∀ j, j < 3 → gI M' b j = gI M o j) (h1 : ∀ i j, 1 ≤ i → i ≤ 4 → j < 20 → gI M' (b + i) j = gI M (o + i) j) (h2 : ∀ i j, 5 ≤ i → i ≤ 6 → j < 8 → gI M' (b + i) j = gI M (o + i) j) (h3 : ∀ j, j < 6 → gI M' (b + 7) j = gI M (o + 7) j) : isW M' b P W := by
  obtain ⟨⟨q1, q2, q3⟩, h4, h5, h6⟩ := h
  have hB := oP.b
  have hW := oP.w
  have hL := oW.l
  refine ⟨⟨by rw [h0 0 (by omega)]; exact q1, by rw [h0 1 (by omega)]; exact q2, by rw [h0 2 (by omega)]; exact q3⟩, fun k hk => ⟨?_, ?_, ?_, ?_⟩, fun k hk => ⟨?_, ?_⟩, fun k hk => ?_⟩
  · rw [h1 1 k (by omega) (by omega) (by omega)]; exact (h4 k hk).1
  · rw [h1 2 k (by omega) (by omega) (by omega)]; exact (h4 k hk).2.1
  · rw [h1 3 k (by omega) (by omega) (by omega)]; exact (h4 k hk).2.2.1
  · rw [h1 4 k (by omega) (by omega) (by omega)]; exact (h4 k hk).2.2.2
  · rw [h2 5 k (by omega) (by omega) (by omega)]; exact (h5 k hk).1
  · rw [h2 6 k (by omega) (by omega) (by omega)]; exact (h5 k hk).2
  · rw [h3 k (by omega)]; exact h6 k hk
theorem isN.cpy {b : Nat} (h : isN M a P W) (oP : okP P) (oW : okW P W) (h0 : ∀ j, j < 105 → gI M' b j = gI M a j) : isN M' b P W := by
  obtain ⟨⟨q1, q2, q3⟩, h4, h5, h6⟩ := h
  have hB := oP.b
  have hW := oP.w
  have hL := oW.l
  refine ⟨⟨by rw [h0 _ (by omega)]; exact q1, by rw [h0 _ (by omega)]; exact q2, by rw [h0 _ (by omega)]; exact q3⟩, fun k hk => ⟨?_, ?_, ?_, ?_⟩, fun k hk => ⟨?_, ?_⟩, fun k hk => ?_⟩
  · rw [h0 _ (by omega)]; exact (h4 k hk).1
  · rw [h0 _ (by omega)]; exact (h4 k hk).2.1
  · rw [h0 _ (by omega)]; exact (h4 k hk).2.2.1
  · rw [h0 _ (by omega)]; exact (h4 k hk).2.2.2
  · rw [h0 _ (by omega)]; exact (h5 k hk).1
  · rw [h0 _ (by omega)]; exact (h5 k hk).2
  · rw [h0 _ (by omega)]; exact h6 k hk
end
/-! ## tables that change -/
def up (W : TT) (i k v : Nat) : TT := fun a b => if a = i ∧ b = k then v else W a b
theorem up_s (W : TT) (i k v : Nat) : up W i k v i k = v := if_pos ⟨rfl, rfl⟩
theorem up_n {W : TT} {i k v a b : Nat} (h : a ≠ i ∨ b ≠ k) : up W i k v a b = W a b := if_neg (fun e => by omega)
theorem up_e {W : TT} {i k v a b : Nat} (h : a = i) (h2 : b = k) : up W i k v a b = v := if_pos ⟨h, h2⟩
/-- a line is written -/
def wWr (P W : TT) (w b r : Nat) : TT := up (up (up (up (up (up (up W 1 (W 0 2) b) 2 (W 0 2) (W 5 b)) 3 (W 0 2) r) 4 (W 0 2) w) 0 2 (W 0 2 + 1)) 0 1 (W 0 1 + 1)) 7 w (W 7 w - P 3 b)
/-- a line is copied -/
def cpL (T : TT) (l i : Nat) : TT := up (up (up (up T 1 l (T 1 i)) 2 l (T 2 i)) 3 l (T 3 i)) 4 l (T 4 i)
def rS (lo i : Nat) (s : Nat × TT) : Nat × TT := if s.2 3 i < lo then s else (s.1 + 1, cpL s.2 s.1 i)
def rF (W : TT) (lo n : Nat) : Nat × TT := fo n (rS lo) (0, W)
def wRn (W : TT) (lo : Nat) : TT := up (rF W lo (W 0 2)).2 0 2 (rF W lo (W 0 2)).1
/-- the chalk is given anew -/
def wFl (P W : TT) (n : Nat) : TT := fun i k => if i = 7 ∧ k < n then P 5 k else W i k
def wNt (P W : TT) : TT := up (up (wFl P W (P 0 5)) 0 2 0) 0 0 (W 0 0 + 1)
def wSl (P W : TT) (b : Nat) : TT := up (up W 5 b (P 7 (W 5 b))) 6 b (W 6 b + 1)
section
variable {P W : TT}
theorem wWr_l (w b r : Nat) : wWr P W w b r 0 2 = W 0 2 + 1 := by simp only [wWr, up]; simp
theorem wWr_d (w b r : Nat) : wWr P W w b r 0 0 = W 0 0 := by simp only [wWr, up]; simp
theorem wWr_row {w b r j k : Nat} (hj : 1 ≤ j) (hj4 : j ≤ 4) (hk : k < W 0 2) : wWr P W w b r j k = W j k := by
  simp (disch := omega) only [wWr, up_n]
theorem wWr_new (w b r : Nat) : (wWr P W w b r 1 (W 0 2) = b ∧ wWr P W w b r 2 (W 0 2) = W 5 b) ∧ wWr P W w b r 3 (W 0 2) = r ∧ wWr P W w b r 4 (W 0 2) = w := by
  simp (disch := omega) only [wWr, up_n, up_s, and_self]
theorem mw_e {w b r : Nat} (h : mw P W w b r = true) : (hs (nI (P 6 w)) b = true ∧ r ≤ P 4 w) ∧ P 3 b ≤ P 1 r - ltr P W r ∧ P 3 b ≤ W 7 w ∧ W 0 2 < 20 := by
  unfold mw at h
  rw [Bool.and_eq_true, decide_eq_true_eq] at h
  exact ⟨⟨h.1, h.2.1⟩, h.2.2⟩
theorem okW.wr (oW : okW P W) {w b r : Nat} (hw : w < P 0 5) (hb : b < P 0 2) (hr : r < P 0 0) (h : mw P W w b r = true) : okW P (wWr P W w b r) := by
  obtain ⟨_, h1, h2, h3⟩ := mw_e h
  refine ⟨by rw [wWr_l]; omega, fun k hk => ?_, fun k hk => ?_, fun k hk => ?_, fun q hq => ?_⟩
  · rw [wWr_l] at hk
    rcases Nat.lt_or_ge k (W 0 2) with c | c
    · rw [wWr_row (by omega) (by omega) c, wWr_row (by omega) (by omega) c, wWr_row (by omega) (by omega) c, wWr_row (by omega) (by omega) c]
      exact ⟨oW.b c, oW.ac c, oW.r c, oW.w c⟩
    · obtain rfl : k = W 0 2 := by omega
      obtain ⟨⟨e1, e2⟩, e3, e4⟩ := wWr_new (P := P) (W := W) w b r
      rw [e1, e2, e3, e4]
      exact ⟨hb, oW.me hb, hr, hw⟩
  · have : wWr P W w b r 5 k = W 5 k := by simp (disch := omega) only [wWr, up_n]
    rw [this]; exact oW.me hk
  · by_cases c : k = w
    · subst c
      have : wWr P W k b r 7 k = W 7 k - P 3 b := by simp (disch := omega) only [wWr, up_s]
      rw [this]; have := oW.c hk; omega
    · have : wWr P W w b r 7 k = W 7 k := by simp (disch := omega) only [wWr, up_n]
      rw [this]; exact oW.c hk
  · unfold ltr
    rw [wWr_l]
    show sm (W 0 2) _ + _ ≤ _
    dsimp only
    obtain ⟨⟨e1, e2⟩, e3, e4⟩ := wWr_new (P := P) (W := W) w b r
    rw [e3, e1, sm_congr (g := fun k => if W 3 k = q then P 3 (W 1 k) else 0) _ (fun k hk => by rw [wWr_row (by omega) (by omega) hk, wWr_row (by omega) (by omega) hk])]
    have h5 := oW.room hq
    have h6 : sm (W 0 2) (fun k => if W 3 k = q then P 3 (W 1 k) else 0) = ltr P W q := rfl
    rw [h6]
    by_cases c : r = q
    · subst c; rw [if_pos rfl]; omega
    · rw [if_neg c]; omega
/-- what stays true while rain goes over the lines -/
theorem rF_inv (oW : okW P W) (lo i : Nat) (hi : i ≤ W 0 2) : ((rF W lo i).1 ≤ i ∧ (∀ j k, i ≤ k → (rF W lo i).2 j k = W j k)) ∧ (∀ j k, j = 0 ∨ 5 ≤ j → (rF W lo i).2 j k = W j k) ∧ (∀ k, k < W 0 2 → ((rF W lo i).2 1 k < P 0 2 ∧ (rF W lo i).2 2 k < 10) ∧ (rF W lo i).2 3 k < P 0 0 ∧ (rF W lo i).2 4 k < P 0 5) ∧ ∀ r, sm (rF W lo i).1 (fun k => if (rF W lo i).2 3 k = r then P 3 ((rF W lo i).2 1 k) else 0) ≤ sm i (fun k => if W 3 k = r then P 3 (W 1 k) else 0) := by
  induction i with
  | zero => exact ⟨⟨Nat.le_refl _, fun _ _ _ => rfl⟩, fun _ _ _ => rfl, fun k hk => ⟨⟨oW.b hk, oW.ac hk⟩, oW.r hk, oW.w hk⟩, fun r => Nat.le_refl _⟩
  | succ i ih =>
    obtain ⟨⟨h1, h2⟩, h3, h4, h5⟩ := ih (by omega)
    have e : rF W lo (i + 1) = rS lo i (rF W lo i) := rfl
    rw [e]
    unfold rS
    by_cases c : (rF W lo i).2 3 i < lo
    · rw [if_pos c]
      refine ⟨⟨by omega, fun j k hk => h2 j k (by omega)⟩, h3, h4, fun r => Nat.le_trans (h5 r) (sm_mono _ (by omega))⟩
    · rw [if_neg c]
      have hq := h4 i (by omega)
      refine ⟨⟨by show (rF W lo i).1 + 1 ≤ i + 1; omega, fun j k hk => ?_⟩, fun j k hj => ?_, fun k hk => ?_, fun r => ?_⟩
      · simp (disch := omega) only [cpL, up_n]
        exact h2 j k (by omega)
      · simp (disch := omega) only [cpL, up_n]
        exact h3 j k hj
      · by_cases c2 : k = (rF W lo i).1
        · subst c2
          simp (disch := omega) only [cpL, up_n, up_s]
          exact hq
        · simp (disch := omega) only [cpL, up_n]
          exact h4 k hk
      · show sm (rF W lo i).1 _ + _ ≤ sm i _ + _
        dsimp only
        have e1 : cpL (rF W lo i).2 (rF W lo i).1 i 3 (rF W lo i).1 = W 3 i := by
          simp (disch := omega) only [cpL, up_n, up_s]; exact h2 3 i (by omega)
        have e2 : cpL (rF W lo i).2 (rF W lo i).1 i 1 (rF W lo i).1 = W 1 i := by
          simp (disch := omega) only [cpL, up_n, up_s]; exact h2 1 i (by omega)
        simp only [e1, e2]
        rw [sm_congr (g := fun k => if (rF W lo i).2 3 k = r then P 3 ((rF W lo i).2 1 k) else 0) _ (fun k hk => by simp (disch := omega) only [cpL, up_n])]
        have := h5 r
        omega
theorem okW.rn (oW : okW P W) (lo : Nat) : okW P (wRn W lo) := by
  obtain ⟨⟨h1, h2⟩, h3, h4, h5⟩ := rF_inv oW lo (W 0 2) (Nat.le_refl _)
  have hl := oW.l
  have e0 : wRn W lo 0 2 = (rF W lo (W 0 2)).1 := up_s ..
  have e1 : ∀ j k, 1 ≤ j → wRn W lo j k = (rF W lo (W 0 2)).2 j k := fun j k hj => up_n (by omega)
  refine ⟨by rw [e0]; omega, fun k hk => ?_, fun k hk => ?_, fun k hk => ?_, fun q hq => ?_⟩
  · rw [e0] at hk
    rw [e1 _ _ (by omega), e1 _ _ (by omega), e1 _ _ (by omega), e1 _ _ (by omega)]
    have := h4 k (by omega)
    exact ⟨this.1.1, this.1.2, this.2.1, this.2.2⟩
  · rw [e1 _ _ (by omega), h3 _ _ (by omega)]; exact oW.me hk
  · rw [e1 _ _ (by omega), h3 _ _ (by omega)]; exact oW.c hk
  · unfold ltr
    rw [e0, sm_congr (g := fun k => if (rF W lo (W 0 2)).2 3 k = q then P 3 ((rF W lo (W 0 2)).2 1 k) else 0) _ (fun k hk => by rw [e1 _ _ (by omega), e1 _ _ (by omega)])]
    exact Nat.le_trans (h5 q) (oW.room hq)
theorem okW.nt (oP : okP P) (oW : okW P W) : okW P (wNt P W) := by
  have e0 : wNt P W 0 2 = 0 := by simp (disch := omega) only [wNt, up_n, up_s]
  have e1 : ∀ j k, 1 ≤ j → wNt P W j k = wFl P W (P 0 5) j k := fun j k hj => by simp (disch := omega) only [wNt, up_n]
  refine ⟨by rw [e0]; omega, fun k hk => ?_, fun k hk => ?_, fun k hk => ?_, fun q hq => ?_⟩
  · rw [e0] at hk; omega
  · rw [e1 _ _ (by omega), wFl, if_neg (by omega)]; exact oW.me hk
  · rw [e1 _ _ (by omega), wFl, if_pos ⟨rfl, hk⟩]; exact (oP.chk hk).2
  · unfold ltr; rw [e0]; exact Nat.zero_le _
theorem okW.sl (oP : okP P) (oW : okW P W) {b : Nat} (hb : b < P 0 2) (h : P 7 (W 5 b) ≠ 4294967295) : okW P (wSl P W b) := by
  have h1 := oP.kin (oW.me hb)
  have e0 : wSl P W b 0 2 = W 0 2 := by simp (disch := omega) only [wSl, up_n]
  have e1 : ∀ j k, j ≤ 4 ∨ 7 ≤ j → wSl P W b j k = W j k := fun j k hj => by simp (disch := omega) only [wSl, up_n]
  refine ⟨by rw [e0]; exact oW.l, fun k hk => ?_, fun k hk => ?_, fun k hk => ?_, fun q hq => ?_⟩
  · rw [e0] at hk
    rw [e1 _ _ (by omega), e1 _ _ (by omega), e1 _ _ (by omega), e1 _ _ (by omega)]
    exact ⟨oW.b hk, oW.ac hk, oW.r hk, oW.w hk⟩
  · by_cases c : k = b
    · subst c
      have : wSl P W k 5 k = P 7 (W 5 k) := by simp (disch := omega) only [wSl, up_n, up_s]
      rw [this]; omega
    · have : wSl P W b 5 k = W 5 k := by simp (disch := omega) only [wSl, up_n]
      rw [this]; exact oW.me hk
  · rw [e1 _ _ (by omega)]; exact oW.c hk
  · unfold ltr
    rw [e0, sm_congr (g := fun k => if W 3 k = q then P 3 (W 1 k) else 0) _ (fun k hk => by rw [e1 _ _ (by omega), e1 _ _ (by omega)])]
    exact oW.room hq
end
