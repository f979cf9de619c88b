/-! # functional level, 81: the model reads a work; what is done -/
section
variable {M M' M1 M2 N N' : Mm} {m E a k f n c op R x : Nat} {T : Nat → Nat} {B B' P W : TT} {ρ : Nat → Mm → Option Mm} {φ : Nat → Nat → TT → Ov} {p0 : Int32}
theorem SM_steps (hE : E ≤ 150) (hT : ∀ i, i < E → T i < 256) (oP : okP P) : ∀ k op, op ≤ 6 → 7 ≤ k + op → SM m P T E op (f_M_readsStep k m) (wT P T E k op)
  | 0, op => fun h1 h2 => by omega
  | k + 1, op => fun h1 h2 => SM_step (ρ := f_M_readsStep k) (φ := wT P T E k (op + 1)) hE oP h1 (fun q => SM_steps hE hT oP k (op + 1) (by omega) (by omega)) (fun _ => wT_g hT oP k (op + 1)) (fun _ a n B ha => wT_sk ha k)
theorem M_top (hE : E ≤ 150) (hS : SM m P T E 0 (f_M_readsStep 8 m) φ) (hg : ∀ a n B, a ≤ E → gW P E 0 a n B (φ a n B)) (hk : ∀ a n B, a ≤ E → φ (sk T E a) n B = φ a n B) : ∀ (u a n : Nat) (B : TT) (w : Nat) (M : Mm), a ≤ E → MTp M m T E (sk T E a) 0 4294967295 → isSt M m n B → gI M m 8 = nI 0 → pt3 M m P → 6 * n ≤ a → E - a < u → u < w → ∃ M', f_M_work_c w m p0 M = f_M_work_d m p0 M' ∧ FX (wkD m) M M' ∧ mW M' m T E 0 (wTp φ T E u a n B) := by
  intro u
  induction u with
  | zero => intro a n B w M _ _ _ _ _ _ h _; omega
  | succ u ih =>
    intro a n B w M haE h1 h2 h3 h4 h5 hu hw
    obtain ⟨w, rfl⟩ : ∃ v, w = v + 2 := ⟨w - 2, by omega⟩
    have hs := sk_b (T := T) haE
    have k5 := h1.1.2.2.1
    have a4 := h1.1.2.1
    have a2 := h1.1.1
    have hE6 := h1.2.2.1
    unfold wTp
    by_cases c : E ≤ sk T E a
    · rw [if_pos c]
      refine ⟨M, ?_, FX.rf _ M, Or.inl ⟨rfl, h1, h2, h3⟩⟩
      simp (disch := omega) only [f_M_work_c, k5, a4, a2, bI_s, bV_s, bL_s, bR_s, bG_s, bG_n, bX_l, bX_r, ck_nI, nI_clamp, nI_leT, nI_leF, nI_ltT, nI_ltF, nI_eqF, nI_add, pk_mul, ofN, bt_e, or0, Nat.zero_add, Nat.add_zero, ↓reduceIte, if_true, if_false, Bool.false_eq_true, eq_self, li0, li1, li2, li3, li4, li5, li6, li7, li8, li9, li10, li11, li12, li14, li15, li16, li18, li19, li20, li23, li24, li25, li26, li27, li30, li31, li32, li36, li40, li41, li42, li43, li44, li45, li47, li48, li57, li59, li60, li91, li93, li96, li97, li100, li105, li122, li150, li200, li255, li400, li500, li600, li999, li1000, li1001, li2000, li2001, li2002, li2003, li2004, li2005, li2006, li32767, li100000, li_neg, li13, li17, li21, li22, li28, li29, li33, li34, li35, li37, li38, li39, li46, li49, li50, li51, li52, li53, li63, li80, li115, li160]
    · rw [if_neg c]
      obtain ⟨M2, e2, f2, r2⟩ := hS M _ n B h1 h2 h3 h4 (by omega)
      rw [hk a n B haE] at r2
      have gk := hg a n B haE
      generalize φ a n B = r at r2 gk ⊢
      have eb : ∀ M3, f_M_blanks m M2 = some M3 → f_M_work_c (w + 2) m p0 M = f_M_work_c (w + 1) m p0 M3 := fun M3 e3 => by
        conv => lhs; unfold f_M_work_c
        simp (disch := omega) only [k5, a4, a2, e2, e3, bI_s, bV_s, bL_s, bR_s, bG_s, bG_n, bX_l, bX_r, ck_nI, nI_clamp, nI_leT, nI_leF, nI_ltT, nI_ltF, nI_eqF, nI_add, pk_mul, ofN, bt_e, or0, Nat.zero_add, Nat.add_zero, ↓reduceIte, if_true, if_false, Bool.false_eq_true, eq_self, li0, li1, li2, li3, li4, li5, li6, li7, li8, li9, li10, li11, li12, li14, li15, li16, li18, li19, li20, li23, li24, li25, li26, li27, li30, li31, li32, li36, li40, li41, li42, li43, li44, li45, li47, li48, li57, li59, li60, li91, li93, li96, li97, li100, li105, li122, li150, li200, li255, li400, li500, li600, li999, li1000, li1001, li2000, li2001, li2002, li2003, li2004, li2005, li2006, li32767, li100000, li_neg, li13, li17, li21, li22, li28, li29, li33, li34, li35, li37, li38, li39, li46, li49, li50, li51, li52, li53, li63, li80, li115, li160]
      rcases r2 with ⟨c2, g2, L2, p2⟩ | ⟨c2, a', g2⟩
      · rw [bW_s c2]
        obtain ⟨⟨x1, x2, x3⟩, _⟩ := gk c2
        obtain ⟨M3, e3, f3, g3⟩ := M_blanks g2
        obtain ⟨M4, e4, f4, r4⟩ := ih _ _ _ (w + 1) M3 x2 g3 (L2.ud f3) (op_ud p2 f3) (h4.wk (f2.trans f3.wu)) (by omega) (by omega) (by omega)
        exact ⟨M4, (eb M3 e3).trans e4, (f2.trans f3.wu).trans f4, r4⟩
      · rw [bW_f c2]
        obtain ⟨M3, e3, f3, g3⟩ := M_blanks g2
        have y5 := g3.1.2.2.1
        have hk3 := g3.2.2.1
        refine ⟨M3, ?_, f2.trans f3.wu, Or.inr ⟨c2, _, g3⟩⟩
        rw [eb M3 e3]
        simp (disch := omega) only [f_M_work_c, y5, bI_s, bV_s, bL_s, bR_s, bG_s, bG_n, bX_l, bX_r, ck_nI, nI_clamp, nI_leT, nI_leF, nI_ltT, nI_ltF, nI_eqF, nI_add, pk_mul, ofN, bt_e, or0, Nat.zero_add, Nat.add_zero, ↓reduceIte, if_true, if_false, Bool.false_eq_true, eq_self, li0, li1, li2, li3, li4, li5, li6, li7, li8, li9, li10, li11, li12, li14, li15, li16, li18, li19, li20, li23, li24, li25, li26, li27, li30, li31, li32, li36, li40, li41, li42, li43, li44, li45, li47, li48, li57, li59, li60, li91, li93, li96, li97, li100, li105, li122, li150, li200, li255, li400, li500, li600, li999, li1000, li1001, li2000, li2001, li2002, li2003, li2004, li2005, li2006, li32767, li100000, li_neg, li13, li17, li21, li22, li28, li29, li33, li34, li35, li37, li38, li39, li46, li49, li50, li51, li52, li53, li63, li80, li115, li160]
theorem M_wread (hE : E ≤ 150) (oP : okP P) (h : MTp M m T E (sk T E 0) 0 4294967295) (hp : gI M m 8 = nI 0) (h4 : pt3 M m P) : ∃ M', f_M_work_c FU m p0 (sI M m 32 (nI 0)) = f_M_work_d m p0 M' ∧ FX (wkD m) M M' ∧ mW M' m T E 0 (wkz P T E) := by
  have hT := h.2.2.2
  have f0 : FX (wkD m) M (sI M m 32 (nI 0)) := (FX.rf _ M).sI (Or.inr (Or.inl ⟨rfl, Or.inr rfl⟩))
  obtain ⟨M1, e1, f1, r1⟩ := M_top (p0 := p0) hE (SM_steps hE hT oP 8 0 (by omega) (by omega)) (wT_g hT oP 8 0) (fun a n B ha => wT_sk ha 8) (E + 1) 0 0 (fun _ _ => 0) FU (sI M m 32 (nI 0)) (Nat.zero_le E) (h.s7 (by omega) _) ⟨gI_same .., fun k hk => by omega⟩ (by rw [gI_ne (by omega)]; exact hp) (h4.wk f0) (by omega) (by omega) (FU_lt (by omega))
  exact ⟨M1, e1, f0.trans f1, r1⟩
/-! what is done -/
abbrev Sx : Type := TT × Nat × Nat × Nat
def stp (P B : TT) (k : Nat) (W : TT) : TT := if B 0 k = 0 then aWr P W (B 1 k) (B 2 k) (B 3 k) else if B 0 k = 1 then aSl P W (B 2 k) else if B 0 k = 2 then wRn W (B 1 k) else if W 0 0 < 500 then wNt P W else W
def stz (P B : TT) (k : Nat) (W : TT) : Nat := if B 0 k = 0 then (if mw P W (B 1 k) (B 2 k) (B 3 k) = true then 1 else 0) else if B 0 k = 1 then (if P 7 (W 5 (B 2 k)) = 4294967295 then 0 else 1) else if B 0 k = 2 then rainy W (B 1 k) else if W 0 0 < 500 then 1 else 0
def ex (P B : TT) : Nat → Nat → Nat → Sx → Sx
  | 0 => fun _ _ s => s
  | u + 1 => fun lo hi s => if hi ≤ lo ∨ 200 ≤ s.2.1 then s else if B 0 lo = 4 then ex P B u (B 4 lo) hi (fo (B 1 lo) (fun _ x => ex P B u (lo + 1) (B 4 lo) x) (s.1, s.2.1 + 1, s.2.2.1, s.2.2.2)) else ex P B u (B 4 lo) hi (stp P B lo s.1, s.2.1 + 1, s.2.2.1 + stz P B lo s.1, s.2.2.2 + (1 - stz P B lo s.1))
theorem ex_id {s : Sx} (h : 200 ≤ s.2.1) : ∀ u lo hi, ex P B u lo hi s = s
  | 0, _, _ => rfl
  | _ + 1, _, _ => if_pos (Or.inr h)
theorem ex_end {s : Sx} {lo : Nat} : ∀ u, ex P B u lo lo s = s
  | 0 => rfl
  | _ + 1 => if_pos (Or.inl (Nat.le_refl _))
def xok (P : TT) (s : Sx) : Prop := okD P s.1 ∧ s.2.1 ≤ 200
theorem stz_1 (k : Nat) (W : TT) : stz P B k W ≤ 1 := by
  unfold stz rainy
  repeat' split
  all_goals omega
theorem wSl_0 {b k : Nat} : wSl P W b 0 k = W 0 k := by unfold wSl; rw [up_n (by omega), up_n (by omega)]
theorem wNt_dy : wNt P W 0 0 = W 0 0 + 1 := up_s ..
theorem stp_ok {k : Nat} (oP : okP P) (oW : okD P W) (ho : okSp P B k) : okD P (stp P B k W) := by
  obtain ⟨o0, o1, o2, _⟩ := ho
  unfold stp
  by_cases c0 : B 0 k = 0
  · rw [if_pos c0]
    obtain ⟨x1, x2, x3⟩ := o0 c0
    refine ⟨oW.1.awr x1 x2 x3, ?_⟩
    unfold aWr
    split
    · rw [wWr_d]; exact oW.2
    · exact oW.2
  · rw [if_neg c0]
    by_cases c1 : B 0 k = 1
    · rw [if_pos c1]
      refine ⟨oW.1.asl oP (o1 c1), ?_⟩
      unfold aSl
      split
      · exact oW.2
      · rw [wSl_0]; exact oW.2
    · rw [if_neg c1]
      by_cases c2 : B 0 k = 2
      · rw [if_pos c2]
        refine ⟨oW.1.rn _, ?_⟩
        unfold wRn
        rw [up_n (by omega), (rF_inv oW.1 (B 1 k) (W 0 2) (Nat.le_refl _)).2.1 0 0 (Or.inl rfl)]
        exact oW.2
      · rw [if_neg c2]
        by_cases c3 : W 0 0 < 500
        · rw [if_pos c3]
          exact ⟨oW.1.nt oP, by rw [wNt_dy]; omega⟩
        · rw [if_neg c3]; exact oW
theorem wfs_cut : ∀ u d lo hi, wfs P B u d lo hi → wfs P B (hi - lo) d lo hi
  | 0, d, lo, hi => fun h => by
    have h : lo = hi := h
    rw [h]; exact wfs_rf ..
  | u + 1, d, lo, hi => fun h => by
    rcases h with h | ⟨h1, h2, h3, h4, h5⟩
    · rw [h]; exact wfs_rf ..
    · obtain ⟨v, hv⟩ : ∃ v, hi - lo = v + 1 := ⟨hi - lo - 1, by omega⟩
      rw [hv]
      refine Or.inr ⟨h1, h2, h3, fun q => ⟨(h4 q).1, ?_⟩, ?_⟩
      · have z := wfs_cut u _ _ _ (h4 q).2
        have e : v = (B 4 lo - (lo + 1)) + (v - (B 4 lo - (lo + 1))) := by omega
        rw [e]; exact wfs_up _ _ z
      · have z := wfs_cut u _ _ _ h5
        have e : v = (hi - B 4 lo) + (v - (hi - B 4 lo)) := by omega
        rw [e]; exact wfs_up _ _ z
theorem fo_id {α : Type} {g : α → α} {s : α} : ∀ i d, g (fo i (fun _ x => g x) s) = fo i (fun _ x => g x) s → fo (i + d) (fun _ x => g x) s = fo i (fun _ x => g x) s
  | i, 0 => fun _ => rfl
  | i, d + 1 => fun h => by
    show g (fo (i + d) (fun _ x => g x) s) = _
    rw [fo_id i d h]; exact h
end
