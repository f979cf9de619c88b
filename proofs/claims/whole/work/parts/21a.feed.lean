/-! # functional level, 35: the tape changes; feed -/
section
variable {M M' M1 N N' : Mm} {o m p l d : Nat} {P W X X' : TT} {V : Nat → TT} {I : Nat → Nat → TT} {S : St}
/-- all but the tape as before -/
def xT (X X' : TT) : Prop := (∀ k, 2 ≤ k → X' 0 k = X 0 k) ∧ X' 2 = X 2 ∧ X' 3 = X 3 ∧ X' 4 = X 4
def tpf (o p l d a : Nat) : Prop := cfree o a ∨ (o + 1 ≤ a ∧ a < o + 8) ∨ (2 * o + 82 - p ≤ a ∧ a < 2 * o + 82 - p + 8) ∨ (2 * o + 109 - l ≤ a ∧ a < 2 * o + 109 - l + 3) ∨ a = 2 * o + 119 - d
theorem CItp0 {D : Nat → Prop} (hr : CIr M o p l d) (h1 : isP M p P) (h2 : isW M (o + 8) P W) (ht : CIt M o X) (h5 : isLw M l (X 0 7) (X 2)) (h6 : isD M d (X 0 8) (X 3) (X 4)) (h7 : CIv M o P X V) (h8 : CIi M o P X I) (e : eqx D M M') (hn : o + 561 ≤ nx M) (hD : ∀ a, D a → tpf o p l d a) (hX : xT X X') (n1 : gI M' (o + 1) 1 = nI (X' 0 0)) (n2 : gI M' (o + 1) 5 = nI (X' 0 1)) (n3 : ∀ k, k < X' 0 0 → gI M' (o + 2) k = nI (X' 1 k)) : CIr M' o p l d ∧ (isP M' p P ∧ isW M' (o + 8) P W) ∧ CIt M' o X' ∧ (isLw M' l (X' 0 7) (X' 2) ∧ isD M' d (X' 0 8) (X' 3) (X' 4)) ∧ CIv M' o P X' V ∧ CIi M' o P X' I := by
  obtain ⟨⟨t1, t2⟩, t3, ⟨t4, t5, t6⟩, t7, t8⟩ := ht
  have hp := hr.1.1
  have hl := hr.1.2.1
  have hd := hr.1.2.2
  have nf : ∀ a, ¬ tpf o p l d a → ¬ D a := fun a ha z => ha (hD a z)
  have g : ∀ a, a < o + 61 → ¬ tpf o p l d a → ∀ j, gI M' a j = gI M a j := fun a ha hs j => (e.2 a (by omega) (nf a hs)).1 j
  have far : ∀ a, o + 561 ≤ a → ¬ D a := fun a ha => nf a (fun z => by unfold tpf cfree scr at z; omega)
  have hv : CIv M' o P X V := h7.mv e hn (nf _ (by unfold tpf cfree scr; omega)) far
  have hi : CIi M' o P X I := h8.mv e hn (nf _ (by unfold tpf cfree scr; omega)) far
  obtain ⟨x1, x2, x3, x4⟩ := hX
  refine ⟨hr.mv e (by omega) (nf _ (by unfold tpf cfree scr; omega)), ⟨h1.eqx e (fun a ha hb => ⟨by omega, nf _ (by unfold tpf cfree scr; omega)⟩), h2.eqx e (fun a ha hb => ⟨by omega, nf _ (by unfold tpf cfree scr; omega)⟩)⟩, ⟨⟨n1, n2⟩, n3, ⟨?_, ?_, ?_⟩, ?_, ?_⟩, ⟨?_, ?_⟩, ?_, ?_⟩
  · rw [g _ (by omega) (by unfold tpf cfree scr; omega), x1 2 (by omega)]; exact t4
  · rw [g _ (by omega) (by unfold tpf cfree scr; omega), x1 3 (by omega)]; exact t5
  · rw [g _ (by omega) (by unfold tpf cfree scr; omega), x1 4 (by omega)]; exact t6
  · rw [g _ (by omega) (by unfold tpf cfree scr; omega), x1 5 (by omega)]; exact t7
  · rw [g _ (by omega) (by unfold tpf cfree scr; omega), x1 6 (by omega)]; exact t8
  · rw [x1 7 (by omega), x2]
    have e1 : ∀ j, gI M' l j = gI M l j := g l (by omega) (by unfold tpf cfree scr; omega)
    have e2 : ∀ j, gI M' (l + 1) j = gI M (l + 1) j := g (l + 1) (by omega) (by unfold tpf cfree scr; omega)
    unfold isLw isL at h5 ⊢
    simp only [e1, e2]
    exact h5
  · rw [x1 8 (by omega), x3, x4]
    unfold isD at h6 ⊢
    rw [g d (by omega) (by unfold tpf cfree scr; omega), g d (by omega) (by unfold tpf cfree scr; omega)]
    exact h6
  · intro i h; rw [x1 5 (by omega)] at h; exact hv i h
  · intro i h; rw [x1 6 (by omega)] at h; exact hi i h
theorem CItp {D : Nat → Prop} (hr : CIr M o p l d) (h1 : isP M p P) (h2 : isW M (o + 8) P W) (ht : CIt M o X) (h5 : isLw M l (X 0 7) (X 2)) (h6 : isD M d (X 0 8) (X 3) (X 4)) (h7 : CIv M o P X V) (h8 : CIi M o P X I) (e : eqx D M M') (hn : o + 561 ≤ nx M) (hD : ∀ a, D a → tpf o p l d a) (hX : xT X X') (n1 : gI M' (o + 1) 1 = nI (X' 0 0)) (n2 : gI M' (o + 1) 5 = nI (X' 0 1)) (n3 : ∀ k, k < X' 0 0 → gI M' (o + 2) k = nI (X' 1 k)) : CI M' o (P, W, X', V, I) := ⟨p, l, d, CItp0 hr h1 h2 ht h5 h6 h7 h8 e hn hD hX n1 n2 n3⟩
def usd (m a j : Nat) : Prop := qrg m a ∨ (m + 43 ≤ a ∧ a < m + 204) ∨ (m + 365 ≤ a ∧ a < m + 376) ∨ a = m + 2 ∨ a = m + 470 ∨ (m + 473 ≤ a ∧ a < m + 493) ∨ (a = m ∧ (j = 23 ∨ j = 37 ∨ j = 38 ∨ j = 39 ∨ j = 40))
theorem MJtp (h : MJ M m (P, W, X, V, I)) (o0 : oS (P, W, X, V, I)) (e : ∀ a j, usd m a j → gI M' a j = gI M a j) (hX : xT X X') (n1 : gI M' m 1 = nI (X' 0 0)) (n2 : gI M' m 3 = nI (X' 0 1)) (n3 : ∀ k, k < X' 0 0 → gI M' (m + 1) k = nI (X' 1 k)) : MJ M' m (P, W, X', V, I) := by
  obtain ⟨x1, x2, x3, x4⟩ := hX
  obtain ⟨⟨oP, oW⟩, ⟨_, oK⟩, ⟨o1, _⟩, ⟨o2, o5⟩, o3, o4⟩ := o0
  dsimp only at oP oW oK o1 o2 o5 o3 o4
  have h' := h
  obtain ⟨⟨h1, h2⟩, ⟨⟨t1, t2⟩, t3, ⟨t4, t5, t6⟩, t7, t8⟩, ⟨h5, h6⟩, h7, h8⟩ := h'
  dsimp only at h1 h2 t4 t5 t6 t7 t8 h7 h8
  have e0 : ∀ a j, qrg m a ∨ (m + 43 ≤ a ∧ a < m + 204) ∨ (m + 365 ≤ a ∧ a < m + 376) ∨ (a = m ∧ (j = 23 ∨ j = 37)) → gI M' a j = gI M a j := by
    intro a j hq
    refine e a j ?_
    unfold usd
    rcases hq with q | q
    · exact Or.inl q
    · exact Or.inr (by omega)
  refine MJwl h oP oK o1 ⟨⟨x1 7 (by omega), x1 8 (by omega)⟩, x2, x3, x4⟩ e0 ⟨⟨n1, n2⟩, n3, ⟨?_, ?_, ?_⟩, ?_, ?_⟩ ?_ (fun i hi => ?_) (fun j hj => ⟨?_, ?_, fun i hi => ?_⟩)
  · rw [e _ _ (by unfold usd; omega), x1 2 (by omega)]; exact t4
  · rw [e _ _ (by unfold usd; omega), x1 3 (by omega)]; exact t5
  · rw [e _ _ (by unfold usd; omega), x1 4 (by omega)]; exact t6
  · rw [e _ _ (by unfold usd; omega), x1 5 (by omega)]; exact t7
  · rw [e _ _ (by unfold usd; omega), x1 6 (by omega)]; exact t8
  · exact isNr.cg h2 oP oW.1 (fun k _ => e _ _ (by unfold usd; omega))
  · rw [x1 5 (by omega)] at hi
    exact isNr.cg (h7 i hi) oP (o5 i hi).1 (fun k _ => e _ _ (by unfold usd; omega))
  · rw [x1 6 (by omega)] at hj
    rw [e _ _ (by unfold usd; omega)]; exact (h8 j hj).1
  · rw [x1 6 (by omega)] at hj
    exact isNr.cg (h8 j hj).2.1 oP (o4 j hj).1.1 (fun k _ => e _ _ (by unfold usd; omega))
  · rw [x1 6 (by omega)] at hj
    exact isNr.cg ((h8 j hj).2.2 i hi) oP ((o4 j hj).2.2 i hi).1 (fun k _ => e _ _ (by unfold usd; omega))
theorem oStp (o0 : oS (P, W, X, V, I)) (hX : xT X X') (h1 : X' 0 0 ≤ 600) (h2 : ∀ k, k < X' 0 0 → X' 1 k < 256) : oS (P, W, X', V, I) := by
  obtain ⟨x1, x2, x3, x4⟩ := hX
  obtain ⟨⟨oP, oW⟩, ⟨_, oK⟩, ⟨o1, o6, o7⟩, ⟨o2, o5⟩, o3, o4⟩ := o0
  dsimp only at oP oW oK o1 o2 o5 o3 o4 o6 o7
  refine ⟨⟨oP, oW⟩, ⟨⟨h1, h2⟩, ?_⟩, ⟨?_, fun k hk => ?_, fun i k h3 h4 => ?_⟩, ⟨?_, fun i hi => ?_⟩, ?_, fun j hj => ?_⟩
  · dsimp only; rw [x1 7 (by omega), x2]; exact oK
  · dsimp only; rw [x1 8 (by omega)]; exact o1
  · dsimp only at hk ⊢; rw [x1 8 (by omega)] at hk; rw [x3, x4]; exact o6 k hk
  · dsimp only at h4 ⊢; rw [x1 8 (by omega)] at h4; rw [x3]; exact o7 i k h3 h4
  · dsimp only; rw [x1 5 (by omega)]; exact o2
  · dsimp only at hi ⊢; rw [x1 5 (by omega)] at hi; exact o5 i hi
  · dsimp only; rw [x1 6 (by omega)]; exact o3
  · dsimp only at hj ⊢; rw [x1 6 (by omega)] at hj; exact o4 j hj
/-! bytes put behind the tape -/
def TP (t n : Nat) (bs : Nat → Int32) (k : Nat) (M0 M : Mm) : Prop := (gI M t 1 = nI (n + k) ∧ ∀ i, i < k → gI M (t + 1) (n + i) = bs i) ∧ (nx M = nx M0 ∧ kd M = kd M0) ∧ (∀ a j, ¬ (a = t ∧ j = 1) → ¬ (a = t + 1 ∧ n ≤ j) → gI M a j = gI M0 a j) ∧ (∀ a j, gL M a j = gL M0 a j) ∧ ∀ a j, gR M a j = gR M0 a j
theorem TP.step {t n k : Nat} {bs : Nat → Int32} {M0 : Mm} (h : TP t n bs k M0 M) : TP t n bs (k + 1) M0 (sI (sI M (t + 1) (n + k) (bs k)) t 1 (nI (n + k + 1))) := by
  refine ⟨⟨by rw [gI_same, Nat.add_assoc], fun i hi => ?_⟩, h.2.1, fun a j h1 h2 => ?_, h.2.2.2.1, h.2.2.2.2⟩
  · rw [gI_ne (Or.inl (by omega))]
    by_cases q : i = k
    · rw [q, gI_same]
    · rw [gI_ne (Or.inr (by omega))]; exact h.1.2 i (by omega)
  · rw [gI_ne (by omega), gI_ne (by omega)]; exact h.2.2.1 a j h1 h2
def byt (w : Int32) (s : Nat) : Int32 := (w >>> (nI s &&& nI 31)) &&& nI 255
theorem C_put1 {t u n s : Nat} {w : Int32} (h : gI M t 1 = nI n) (hn : n < 600) (hs : s ≤ 24) : f_Tape_put_b (u + 1) t w (nI s) M = f_Tape_put_b u t w (nI s + (-8)) (sI (sI M (t + 1) n (byt w s)) t 1 (nI (n + 1))) := by
  have e9 : gI (sI M (t + 1) n (byt w s)) t 1 = nI n := by rw [gI_ne (Or.inl (by omega))]; exact h
  have e8 : (w >>> (nI s &&& nI 31)) &&& nI 255 = byt w s := rfl
  conv => lhs; unfold f_Tape_put_b
  have e0 : ¬ nI s < nI 0 := nI_nlt (by omega) (by omega)
  rw [if_neg (show ¬ nI s < 0 from e0), h]
  show (if nI 600 ≤ nI n then _ else ck (nI n) 600 _) = _
  rw [if_neg (nI_ge (by omega) (by omega)), ck_nI (by omega) (by omega), nI_clamp (by omega)]
  show f_Tape_put_b u t w (nI s + (-8)) (sI (sI M (t + 1) n (byt w s)) t 1 (gI (sI M (t + 1) n (byt w s)) t 1 + nI 1)) = _
  rw [e9, nI_add]
theorem C_put {t n k : Nat} {bs : Nat → Int32} {M0 : Mm} {w : Int32} (h : TP t n bs k M0 M) (hn : n + k + 4 ≤ 600) (hb : ∀ i, i < 4 → bs (k + i) = byt w (24 - 8 * i)) : ∃ M', f_Tape_put t w M = some M' ∧ TP t n bs (k + 4) M0 M' := by
  have s0 := hb 0 (by omega)
  have s1 := hb 1 (by omega)
  have s2 := hb 2 (by omega)
  have s3 := hb 3 (by omega)
  have h1 := h.step
  have h2 := h1.step
  have h3 := h2.step
  have h4 := h3.step
  rw [show bs k = byt w 24 from s0] at h1 h2 h3 h4
  rw [show bs (k + 1) = byt w 16 from s1] at h2 h3 h4
  rw [show bs (k + 1 + 1) = byt w 8 from s2] at h3 h4
  rw [show bs (k + 1 + 1 + 1) = byt w 0 from s3] at h4
  refine ⟨_, ?_, h4⟩
  have ef : FU = 9995 + 1 + 1 + 1 + 1 + 1 := rfl
  show f_Tape_put_b FU t w (nI 24) M = _
  rw [ef, C_put1 h.1.1 (by omega) (by omega), show nI 24 + (-8) = nI 16 by decide]
  rw [C_put1 h1.1.1 (by omega) (by omega), show nI 16 + (-8) = nI 8 by decide]
  rw [C_put1 h2.1.1 (by omega) (by omega), show nI 8 + (-8) = nI 0 by decide]
  rw [C_put1 h3.1.1 (by omega) (by omega)]
  conv => lhs; unfold f_Tape_put_b
  rw [if_pos (show nI 0 + (-8) < (0 : Int32) by decide)]
def wdA (p0 p1 p2 p3 p4 : Int32) (q : Nat) : Int32 := if q = 0 then p0 else if q = 1 then p1 else if q = 2 then p2 else if q = 3 then p3 else p4
def bsA (p0 p1 p2 p3 p4 : Int32) (i : Nat) : Int32 := byt (wdA p0 p1 p2 p3 p4 (i / 4)) (24 - 8 * (i % 4))
theorem byt_lt (w : Int32) (s : Nat) : (byt w s).toBitVec.toNat < 256 := by
  unfold byt
  rw [Int32.toBitVec_and, BitVec.toNat_and]
  exact Nat.lt_of_le_of_lt Nat.and_le_right (by decide)
theorem sh20 : ∀ k, k < 20 → nI 24 - nI 8 * (nI k - nI k / nI 4 * nI 4) = nI (24 - 8 * (k % 4)) := by decide
theorem M_fd {p0 p1 p2 p3 p4 w : Int32} {F : Nat → Int32 → Int32 → Int32 → Int32 → Int32 → Int32 → Mm → Option (Int32 × Mm)} {n k : Nat} (hk : k < 20) (h : gI M m 1 = nI n) (hn : n < 600) : f_M_feed_c F m p0 p1 p2 p3 p4 (nI k) w M = F m p0 p1 p2 p3 p4 (nI (k + 1)) (sI (sI M (m + 1) n (byt w (24 - 8 * (k % 4)))) m 1 (nI (n + 1))) := by
  have e9 : gI (sI M (m + 1) n (byt w (24 - 8 * (k % 4)))) m 1 = nI n := by rw [gI_ne (Or.inl (by omega))]; exact h
  have e8 : (w >>> (nI (24 - 8 * (k % 4)) &&& nI 31)) &&& nI 255 = byt w (24 - 8 * (k % 4)) := rfl
  have e7 := sh20 k hk
  simp (disch := omega) only [f_M_feed_c, h, e7, e8, e9, bI_s, bV_s, bL_s, bR_s, bG_s, bG_n, bX_l, bX_r, ck_nI, nI_clamp, nI_leT, nI_leF, nI_ltT, nI_ltF, nI_eqF, nI_add, pk_mul, ofN, bt_e, or0, Nat.zero_add, Nat.add_zero, ↓reduceIte, if_true, if_false, Bool.false_eq_true, eq_self, li0, li1, li2, li3, li4, li5, li6, li7, li8, li9, li10, li11, li12, li14, li15, li16, li18, li19, li20, li23, li24, li25, li26, li27, li30, li31, li32, li36, li40, li41, li42, li43, li44, li45, li47, li48, li57, li59, li60, li91, li93, li96, li97, li100, li105, li122, li150, li200, li255, li400, li500, li600, li999, li1000, li1001, li2000, li2001, li2002, li2003, li2004, li2005, li2006, li32767, li100000, li_neg, li13, li17, li21, li22, li28, li29, li33, li34, li35, li37, li38, li39, li46, li49, li50, li51, li52, li53, li63, li80, li115, li160]
def xF (X : TT) (p0 p1 p2 p3 p4 : Int32) : TT := fun a b => if a = 0 ∧ b = 0 then X 0 0 + 20 else if a = 1 ∧ X 0 0 ≤ b then (bsA p0 p1 p2 p3 p4 (b - X 0 0)).toBitVec.toNat else X a b
theorem A_feed (h : InvS o M S) (p0 p1 p2 p3 p4 : Int32) : Ag0 o (f_C_feed o p0 p1 p2 p3 p4 M) (fun M1 => f_M_feed (o + 61) p0 p1 p2 p3 p4 M1) := by
  obtain ⟨P, W, X, V, I⟩ := S
  obtain ⟨p, l, d, hr, ⟨hP, hW⟩, ht, ⟨hL, hD⟩, hv, hi⟩ := id h.1
  dsimp only at hP hW ht hL hD hv hi
  have t1 := ht.1.1
  have hO := h.2.2.1
  have hn := h.2.2.2.1
  have hX6 : X 0 0 ≤ 600 := hO.2.1.1.1
  have hm1 : ∀ M1, MJ (sI M1 (o + 61) 0 (nI 0)) (o + 61) (P, W, X, V, I) → gI (sI M1 (o + 61) 0 (nI 0)) (o + 61) 1 = nI (X 0 0) := fun M1 hm => hm.2.1.1.1
  by_cases c : X 0 0 + 20 ≤ 600
  · have b4 : ∀ (q : Nat) (w : Int32), wdA p0 p1 p2 p3 p4 q = w → ∀ i, i < 4 → bsA p0 p1 p2 p3 p4 (4 * q + i) = byt w (24 - 8 * i) := fun q w hq i hi => by unfold bsA; rw [show (4 * q + i) / 4 = q by omega, show (4 * q + i) % 4 = i by omega, hq]
    have i0 : TP (o + 1) (X 0 0) (bsA p0 p1 p2 p3 p4) 0 M M := ⟨⟨t1, fun i hi => by omega⟩, ⟨rfl, rfl⟩, fun _ _ _ _ => rfl, fun _ _ => rfl, fun _ _ => rfl⟩
    obtain ⟨Ma, ea, i1⟩ := C_put (w := p0) i0 (by omega) (b4 0 p0 rfl)
    obtain ⟨Mb, eb, i2⟩ := C_put (w := p1) i1 (by omega) (b4 1 p1 rfl)
    obtain ⟨Mc, ec, i3⟩ := C_put (w := p2) i2 (by omega) (b4 2 p2 rfl)
    obtain ⟨Md, ed, i4⟩ := C_put (w := p3) i3 (by omega) (b4 3 p3 rfl)
    obtain ⟨Me, ee, i5⟩ := C_put (w := p4) i4 (by omega) (b4 4 p4 rfl)
    have x0 : xF X p0 p1 p2 p3 p4 0 0 = X 0 0 + 20 := if_pos ⟨rfl, rfl⟩
    have xo : ∀ a b, ¬ (a = 0 ∧ b = 0) → ¬ (a = 1 ∧ X 0 0 ≤ b) → xF X p0 p1 p2 p3 p4 a b = X a b := fun a b h1 h2 => by unfold xF; rw [if_neg h1, if_neg h2]
    have xn : ∀ b, X 0 0 ≤ b → xF X p0 p1 p2 p3 p4 1 b = (bsA p0 p1 p2 p3 p4 (b - X 0 0)).toBitVec.toNat := fun b hb => by unfold xF; rw [if_neg (by omega), if_pos ⟨rfl, hb⟩]
    have hX : xT X (xF X p0 p1 p2 p3 p4) := ⟨fun k hk => xo 0 k (by omega) (by omega), funext (fun k => xo 2 k (by omega) (by omega)), funext (fun k => xo 3 k (by omega) (by omega)), funext (fun k => xo 4 k (by omega) (by omega))⟩
    have hby : ∀ (t : Nat) (M0 N : Mm), TP t (X 0 0) (bsA p0 p1 p2 p3 p4) 20 M0 N → (∀ k, k < X 0 0 → gI M0 (t + 1) k = nI (X 1 k)) → ∀ k, k < xF X p0 p1 p2 p3 p4 0 0 → gI N (t + 1) k = nI (xF X p0 p1 p2 p3 p4 1 k) := by
      intro t M0 N hT h0 k hk
      rw [x0] at hk
      by_cases q : k < X 0 0
      · rw [xo 1 k (by omega) (by omega), hT.2.2.1 _ _ (by omega) (by omega)]; exact h0 k q
      · rw [xn k (by omega), ← nI_tn, ← hT.1.2 (k - X 0 0) (by omega), show X 0 0 + (k - X 0 0) = k by omega]
    refine ag0W h (v := nI (X 0 0 + 20)) (M' := Me) (S' := (P, W, xF X p0 p1 p2 p3 p4, V, I)) ?_ ?_ ?_ ⟨⟨by rw [i5.2.1.1]; exact Nat.le_refl _, fun a ha => by rw [i5.2.1.2]; exact h.2.2.2.2 a (by rw [i5.2.1.1] at ha; exact ha)⟩, fun a j h1 h2 => i5.2.2.1 a j (by omega) (by omega)⟩ (fun M1 hm => ?_)
    · have e9 : gI Me (o + 1) 1 = nI (X 0 0 + 20) := i5.1.1
      simp (disch := omega) only [f_C_feed, f_Tape_hasRoom, t1, ea, eb, ec, ed, ee, e9, bI_s, bV_s, bL_s, bR_s, bG_s, bG_n, bX_l, bX_r, ck_nI, nI_clamp, nI_leT, nI_leF, nI_ltT, nI_ltF, nI_eqF, nI_add, pk_mul, ofN, bt_e, or0, Nat.zero_add, Nat.add_zero, ↓reduceIte, if_true, if_false, Bool.false_eq_true, eq_self, li0, li1, li2, li3, li4, li5, li6, li7, li8, li9, li10, li11, li12, li14, li15, li16, li18, li19, li20, li23, li24, li25, li26, li27, li30, li31, li32, li36, li40, li41, li42, li43, li44, li45, li47, li48, li57, li59, li60, li91, li93, li96, li97, li100, li105, li122, li150, li200, li255, li400, li500, li600, li999, li1000, li1001, li2000, li2001, li2002, li2003, li2004, li2005, li2006, li32767, li100000, li_neg, li13, li17, li21, li22, li28, li29, li33, li34, li35, li37, li38, li39, li46, li49, li50, li51, li52, li53, li63, li80, li115, li160]
    · refine CItp (D := fun a => a = o + 1 ∨ a = o + 2) hr hP hW ht hL hD hv hi ⟨by rw [i5.2.1.1]; exact Nat.le_refl _, fun a ha hd => ⟨fun j => i5.2.2.1 a j (by omega) (by omega), fun j => i5.2.2.2.2 a j⟩⟩ hn (fun a ha => by unfold tpf; omega) hX ?_ ?_ ?_
      · rw [x0]; exact i5.1.1
      · rw [xo 0 1 (by omega) (by omega), i5.2.2.1 _ _ (by omega) (by omega)]; exact ht.1.2
      · exact hby (o + 1) M Me i5 ht.2.1
    · refine oStp hO hX (by rw [x0]; omega) (fun k hk => ?_)
      rw [x0] at hk
      by_cases q : k < X 0 0
      · rw [xo 1 k (by omega) (by omega)]; exact hO.2.1.1.2 k q
      · rw [xn k (by omega)]; exact byt_lt _ _
    · have e0 := hm1 M1 hm
      have key := lp_inv (fun u k (N : Mm) => f_M_feed_b u (o + 61) p0 p1 p2 p3 p4 (nI k) N) 20 (fun k N => TP (o + 61) (X 0 0) (bsA p0 p1 p2 p3 p4) k (sI M1 (o + 61) 0 (nI 0)) N) (fun r => r.1 = nI (X 0 0 + 20) ∧ TP (o + 61) (X 0 0) (bsA p0 p1 p2 p3 p4) 20 (sI M1 (o + 61) 0 (nI 0)) r.2) ?_ ?_ 0 (by omega) (sI M1 (o + 61) 0 (nI 0)) ⟨⟨e0, fun i hi => by omega⟩, ⟨rfl, rfl⟩, fun _ _ _ _ => rfl, fun _ _ => rfl, fun _ _ => rfl⟩ FU (FU_lt (by omega))
      · obtain ⟨⟨z, N⟩, e, e1, e2⟩ := key
        dsimp only at e1 e2
        subst e1
        refine ⟨N, ?_, ?_, ⟨e2.2.1, fun a j ha => e2.2.2.1 a j (by omega) (by omega), fun a j _ => e2.2.2.2.1 a j, fun a j _ => e2.2.2.2.2 a j⟩⟩
        · simp (disch := omega) only [f_M_feed, e0, e, bI_s, bV_s, bL_s, bR_s, bG_s, bG_n, bX_l, bX_r, ck_nI, nI_clamp, nI_leT, nI_leF, nI_ltT, nI_ltF, nI_eqF, nI_add, pk_mul, ofN, bt_e, or0, Nat.zero_add, Nat.add_zero, ↓reduceIte, if_true, if_false, Bool.false_eq_true, eq_self, li0, li1, li2, li3, li4, li5, li6, li7, li8, li9, li10, li11, li12, li14, li15, li16, li18, li19, li20, li23, li24, li25, li26, li27, li30, li31, li32, li36, li40, li41, li42, li43, li44, li45, li47, li48, li57, li59, li60, li91, li93, li96, li97, li100, li105, li122, li150, li200, li255, li400, li500, li600, li999, li1000, li1001, li2000, li2001, li2002, li2003, li2004, li2005, li2006, li32767, li100000, li_neg, li13, li17, li21, li22, li28, li29, li33, li34, li35, li37, li38, li39, li46, li49, li50, li51, li52, li53, li63, li80, li115, li160]
        · refine MJtp hm hO (fun a j hu => e2.2.2.1 a j ?_ ?_) hX ?_ ?_ ?_
          · intro q; unfold usd qrg at hu; omega
          · intro q; unfold usd qrg at hu; omega
          · rw [x0]; exact e2.1.1
          · rw [xo 0 1 (by omega) (by omega), e2.2.2.1 _ _ (by omega) (by omega)]; exact hm.2.1.1.2
          · exact hby (o + 61) _ N e2 hm.2.1.2.1
      · intro u k N hk hT
        left
        refine ⟨_, ?_, hT.step⟩
        have e9 := hT.1.1
        have eb : ∀ q w, k / 4 = q → wdA p0 p1 p2 p3 p4 q = w → bsA p0 p1 p2 p3 p4 k = byt w (24 - 8 * (k % 4)) := fun q w h1 h2 => by unfold bsA; rw [h1, h2]
        have q5 : k < 4 ∨ (4 ≤ k ∧ k < 8) ∨ (8 ≤ k ∧ k < 12) ∨ (12 ≤ k ∧ k < 16) ∨ (16 ≤ k ∧ k < 20) := by omega
        rcases q5 with q | q | q | q | q
        · rw [eb 0 p0 (by omega) rfl]; simp (disch := omega) only [f_M_feed_b, M_fd hk e9, bI_s, bV_s, bL_s, bR_s, bG_s, bG_n, bX_l, bX_r, ck_nI, nI_clamp, nI_leT, nI_leF, nI_ltT, nI_ltF, nI_eqF, nI_add, pk_mul, ofN, bt_e, or0, Nat.zero_add, Nat.add_zero, ↓reduceIte, if_true, if_false, Bool.false_eq_true, eq_self, li0, li1, li2, li3, li4, li5, li6, li7, li8, li9, li10, li11, li12, li14, li15, li16, li18, li19, li20, li23, li24, li25, li26, li27, li30, li31, li32, li36, li40, li41, li42, li43, li44, li45, li47, li48, li57, li59, li60, li91, li93, li96, li97, li100, li105, li122, li150, li200, li255, li400, li500, li600, li999, li1000, li1001, li2000, li2001, li2002, li2003, li2004, li2005, li2006, li32767, li100000, li_neg, li13, li17, li21, li22, li28, li29, li33, li34, li35, li37, li38, li39, li46, li49, li50, li51, li52, li53, li63, li80, li115, li160]
        · rw [eb 1 p1 (by omega) rfl]; simp (disch := omega) only [f_M_feed_b, M_fd hk e9, bI_s, bV_s, bL_s, bR_s, bG_s, bG_n, bX_l, bX_r, ck_nI, nI_clamp, nI_leT, nI_leF, nI_ltT, nI_ltF, nI_eqF, nI_add, pk_mul, ofN, bt_e, or0, Nat.zero_add, Nat.add_zero, ↓reduceIte, if_true, if_false, Bool.false_eq_true, eq_self, li0, li1, li2, li3, li4, li5, li6, li7, li8, li9, li10, li11, li12, li14, li15, li16, li18, li19, li20, li23, li24, li25, li26, li27, li30, li31, li32, li36, li40, li41, li42, li43, li44, li45, li47, li48, li57, li59, li60, li91, li93, li96, li97, li100, li105, li122, li150, li200, li255, li400, li500, li600, li999, li1000, li1001, li2000, li2001, li2002, li2003, li2004, li2005, li2006, li32767, li100000, li_neg, li13, li17, li21, li22, li28, li29, li33, li34, li35, li37, li38, li39, li46, li49, li50, li51, li52, li53, li63, li80, li115, li160]
        · rw [eb 2 p2 (by omega) rfl]; simp (disch := omega) only [f_M_feed_b, M_fd hk e9, bI_s, bV_s, bL_s, bR_s, bG_s, bG_n, bX_l, bX_r, ck_nI, nI_clamp, nI_leT, nI_leF, nI_ltT, nI_ltF, nI_eqF, nI_add, pk_mul, ofN, bt_e, or0, Nat.zero_add, Nat.add_zero, ↓reduceIte, if_true, if_false, Bool.false_eq_true, eq_self, li0, li1, li2, li3, li4, li5, li6, li7, li8, li9, li10, li11, li12, li14, li15, li16, li18, li19, li20, li23, li24, li25, li26, li27, li30, li31, li32, li36, li40, li41, li42, li43, li44, li45, li47, li48, li57, li59, li60, li91, li93, li96, li97, li100, li105, li122, li150, li200, li255, li400, li500, li600, li999, li1000, li1001, li2000, li2001, li2002, li2003, li2004, li2005, li2006, li32767, li100000, li_neg, li13, li17, li21, li22, li28, li29, li33, li34, li35, li37, li38, li39, li46, li49, li50, li51, li52, li53, li63, li80, li115, li160]
        · rw [eb 3 p3 (by omega) rfl]; simp (disch := omega) only [f_M_feed_b, M_fd hk e9, bI_s, bV_s, bL_s, bR_s, bG_s, bG_n, bX_l, bX_r, ck_nI, nI_clamp, nI_leT, nI_leF, nI_ltT, nI_ltF, nI_eqF, nI_add, pk_mul, ofN, bt_e, or0, Nat.zero_add, Nat.add_zero, ↓reduceIte, if_true, if_false, Bool.false_eq_true, eq_self, li0, li1, li2, li3, li4, li5, li6, li7, li8, li9, li10, li11, li12, li14, li15, li16, li18, li19, li20, li23, li24, li25, li26, li27, li30, li31, li32, li36, li40, li41, li42, li43, li44, li45, li47, li48, li57, li59, li60, li91, li93, li96, li97, li100, li105, li122, li150, li200, li255, li400, li500, li600, li999, li1000, li1001, li2000, li2001, li2002, li2003, li2004, li2005, li2006, li32767, li100000, li_neg, li13, li17, li21, li22, li28, li29, li33, li34, li35, li37, li38, li39, li46, li49, li50, li51, li52, li53, li63, li80, li115, li160]
        · rw [eb 4 p4 (by omega) rfl]; simp (disch := omega) only [f_M_feed_b, M_fd hk e9, bI_s, bV_s, bL_s, bR_s, bG_s, bG_n, bX_l, bX_r, ck_nI, nI_clamp, nI_leT, nI_leF, nI_ltT, nI_ltF, nI_eqF, nI_add, pk_mul, ofN, bt_e, or0, Nat.zero_add, Nat.add_zero, ↓reduceIte, if_true, if_false, Bool.false_eq_true, eq_self, li0, li1, li2, li3, li4, li5, li6, li7, li8, li9, li10, li11, li12, li14, li15, li16, li18, li19, li20, li23, li24, li25, li26, li27, li30, li31, li32, li36, li40, li41, li42, li43, li44, li45, li47, li48, li57, li59, li60, li91, li93, li96, li97, li100, li105, li122, li150, li200, li255, li400, li500, li600, li999, li1000, li1001, li2000, li2001, li2002, li2003, li2004, li2005, li2006, li32767, li100000, li_neg, li13, li17, li21, li22, li28, li29, li33, li34, li35, li37, li38, li39, li46, li49, li50, li51, li52, li53, li63, li80, li115, li160]
      · intro u N hT
        refine ⟨(nI (X 0 0 + 20), N), ?_, rfl, hT⟩
        have e9 := hT.1.1
        simp (disch := omega) only [f_M_feed_b, e9, bI_s, bV_s, bL_s, bR_s, bG_s, bG_n, bX_l, bX_r, ck_nI, nI_clamp, nI_leT, nI_leF, nI_ltT, nI_ltF, nI_eqF, nI_add, pk_mul, ofN, bt_e, or0, Nat.zero_add, Nat.add_zero, ↓reduceIte, if_true, if_false, Bool.false_eq_true, eq_self, li0, li1, li2, li3, li4, li5, li6, li7, li8, li9, li10, li11, li12, li14, li15, li16, li18, li19, li20, li23, li24, li25, li26, li27, li30, li31, li32, li36, li40, li41, li42, li43, li44, li45, li47, li48, li57, li59, li60, li91, li93, li96, li97, li100, li105, li122, li150, li200, li255, li400, li500, li600, li999, li1000, li1001, li2000, li2001, li2002, li2003, li2004, li2005, li2006, li32767, li100000, li_neg, li13, li17, li21, li22, li28, li29, li33, li34, li35, li37, li38, li39, li46, li49, li50, li51, li52, li53, li63, li80, li115, li160]
  · refine ag0R0 h (v := nI 4294967295) ?_ (fun M1 hm => ?_)
    · simp (disch := omega) only [f_C_feed, f_Tape_hasRoom, t1, bI_s, bV_s, bL_s, bR_s, bG_s, bG_n, bX_l, bX_r, ck_nI, nI_clamp, nI_leT, nI_leF, nI_ltT, nI_ltF, nI_eqF, nI_add, pk_mul, ofN, bt_e, or0, Nat.zero_add, Nat.add_zero, ↓reduceIte, if_true, if_false, Bool.false_eq_true, eq_self, li0, li1, li2, li3, li4, li5, li6, li7, li8, li9, li10, li11, li12, li14, li15, li16, li18, li19, li20, li23, li24, li25, li26, li27, li30, li31, li32, li36, li40, li41, li42, li43, li44, li45, li47, li48, li57, li59, li60, li91, li93, li96, li97, li100, li105, li122, li150, li200, li255, li400, li500, li600, li999, li1000, li1001, li2000, li2001, li2002, li2003, li2004, li2005, li2006, li32767, li100000, li_neg, li13, li17, li21, li22, li28, li29, li33, li34, li35, li37, li38, li39, li46, li49, li50, li51, li52, li53, li63, li80, li115, li160]
    · have e := hm1 M1 hm
      simp (disch := omega) only [f_M_feed, e, bI_s, bV_s, bL_s, bR_s, bG_s, bG_n, bX_l, bX_r, ck_nI, nI_clamp, nI_leT, nI_leF, nI_ltT, nI_ltF, nI_eqF, nI_add, pk_mul, ofN, bt_e, or0, Nat.zero_add, Nat.add_zero, ↓reduceIte, if_true, if_false, Bool.false_eq_true, eq_self, li0, li1, li2, li3, li4, li5, li6, li7, li8, li9, li10, li11, li12, li14, li15, li16, li18, li19, li20, li23, li24, li25, li26, li27, li30, li31, li32, li36, li40, li41, li42, li43, li44, li45, li47, li48, li57, li59, li60, li91, li93, li96, li97, li100, li105, li122, li150, li200, li255, li400, li500, li600, li999, li1000, li1001, li2000, li2001, li2002, li2003, li2004, li2005, li2006, li32767, li100000, li_neg, li13, li17, li21, li22, li28, li29, li33, li34, li35, li37, li38, li39, li46, li49, li50, li51, li52, li53, li63, li80, li115, li160]
end
