/-! # functional level, 60: all clauses -/
section
variable {M M' M1 M2 N : Mm} {t m E a k f n s p w v : Nat} {T : Nat → Nat} {Q : TT} {p0 p1 p2 p3 : Int32}
theorem nE_b (h : a ≤ E) : a ≤ nE T E a ∧ nE T E a ≤ E := by
  have hs := sk_b (T := T) h
  have hb := (dgN_b (T := T) (E - sk T E a) (sk T E a) 0).1
  unfold nE dg; omega
theorem nV_lt (h : a ≤ E) (hT : ∀ i, i < E → T i < 256) : nV T E a < 1000000 := by
  have hs := sk_b (T := T) h
  exact (dgN_b (T := T) (E - sk T E a) (sk T E a) 0).2 (by omega) (fun i hi => hT i (by omega))
theorem nV_in (h : a ≤ E) (hT : ∀ i, i < E → T i < 256) {lo hi : Nat} (hl : lo ≤ 100) (hh : hi ≤ 1000) (h0 : nK T E a (nI lo) (nI hi) = 0) : lo ≤ nV T E a ∧ nV T E a ≤ hi := by
  have hv := nV_lt h hT
  have := nK_v (T := T) (E := E) (a := a) (lo := lo) (hi := hi) (by omega) (by omega) (by unfold nV at hv; omega) h0
  exact this.2
theorem n2k_0 (h : n2k T E a p0 p1 p2 p3 = 0) : nK T E a p0 p1 = 0 ∧ nK T E (nE T E a) p2 p3 = 0 := by
  by_cases c : nK T E a p0 p1 = 0
  · refine ⟨c, ?_⟩
    have : n2k T E a p0 p1 p2 p3 = nK T E (nE T E a) p2 p3 := if_neg (fun q => q c)
    rw [← this]; exact h
  · have : n2k T E a p0 p1 p2 p3 = nK T E a p0 p1 := if_pos c
    rw [this] at h; exact absurd h c
theorem oQRow (oQ : okP Q) (h : Q 0 0 < 4) (h1 : 1 ≤ v) (h2 : v ≤ 30) : okP (qRow Q v) := by
  have r0 : qRow Q v 0 0 = Q 0 0 + 1 := up_s ..
  have ro : ∀ a b, ¬ (a = 0 ∧ b = 0) → ¬ (a = 1 ∧ b = Q 0 0) → qRow Q v a b = Q a b := fun a b h1 h2 => by unfold qRow; rw [up_n (by omega), up_n (by omega)]
  have r1 : qRow Q v 1 (Q 0 0) = v := by unfold qRow; rw [up_n (by omega), up_s]
  refine ⟨⟨by rw [r0]; omega, by rw [ro 0 2 (by omega) (by omega)]; exact oQ.b, by rw [ro 0 5 (by omega) (by omega)]; exact oQ.w⟩, fun k hk => ?_, fun k hk => ?_, fun k hk => ?_, fun k hk => ?_⟩
  · rw [r0] at hk
    by_cases c : k = Q 0 0
    · rw [c, r1]; exact ⟨h1, h2⟩
    · rw [ro 1 k (by omega) (by omega)]; exact oQ.wide (by omega)
  · rw [ro 0 2 (by omega) (by omega)] at hk; rw [ro 2 k (by omega) (by omega), ro 3 k (by omega) (by omega)]; exact oQ.2.2.1 k hk
  · rw [ro 0 5 (by omega) (by omega)] at hk; rw [ro 4 k (by omega) (by omega), ro 5 k (by omega) (by omega), ro 6 k (by omega) (by omega)]; exact oQ.2.2.2.1 k hk
  · rw [ro 7 k (by omega) (by omega)]; exact oQ.kin hk
theorem oQBid (oQ : okP Q) (h : Q 0 2 < 8) (h0 : v ≤ 9) (h1 : 1 ≤ w) (h2 : w ≤ 15) : okP (qBid Q v w) := by
  have r0 : qBid Q v w 0 2 = Q 0 2 + 1 := up_s ..
  have ro : ∀ a b, ¬ (a = 0 ∧ b = 2) → ¬ ((a = 2 ∨ a = 3) ∧ b = Q 0 2) → qBid Q v w a b = Q a b := fun a b h1 h2 => by unfold qBid; rw [up_n (by omega), up_n (by omega), up_n (by omega)]
  have r2 : qBid Q v w 2 (Q 0 2) = v := by unfold qBid; rw [up_n (by omega), up_n (by omega), up_s]
  have r3 : qBid Q v w 3 (Q 0 2) = w := by unfold qBid; rw [up_n (by omega), up_s]
  refine ⟨⟨by rw [ro 0 0 (by omega) (by omega)]; exact oQ.r, by rw [r0]; omega, by rw [ro 0 5 (by omega) (by omega)]; exact oQ.w⟩, fun k hk => ?_, fun k hk => ?_, fun k hk => ?_, fun k hk => ?_⟩
  · rw [ro 0 0 (by omega) (by omega)] at hk; rw [ro 1 k (by omega) (by omega)]; exact oQ.wide hk
  · rw [r0] at hk
    by_cases c : k = Q 0 2
    · rw [c, r2, r3]; omega
    · rw [ro 2 k (by omega) (by omega), ro 3 k (by omega) (by omega)]; exact oQ.2.2.1 k (by omega)
  · rw [ro 0 5 (by omega) (by omega)] at hk; rw [ro 4 k (by omega) (by omega), ro 5 k (by omega) (by omega), ro 6 k (by omega) (by omega)]; exact oQ.2.2.2.1 k hk
  · rw [ro 7 k (by omega) (by omega)]; exact oQ.kin hk
theorem oQWri (oQ : okP Q) (h : Q 0 5 < 6) (h0 : v ≤ 3) (h1 : 1 ≤ w) (h2 : w ≤ 60) : okP (qWri Q v w) := by
  have r0 : qWri Q v w 0 5 = Q 0 5 + 1 := up_s ..
  have ro : ∀ a b, ¬ (a = 0 ∧ b = 5) → ¬ ((a = 4 ∨ a = 5 ∨ a = 6) ∧ b = Q 0 5) → qWri Q v w a b = Q a b := fun a b h1 h2 => by unfold qWri; rw [up_n (by omega), up_n (by omega), up_n (by omega), up_n (by omega)]
  have r4 : qWri Q v w 4 (Q 0 5) = v := by unfold qWri; rw [up_n (by omega), up_n (by omega), up_n (by omega), up_s]
  have r5 : qWri Q v w 5 (Q 0 5) = w := by unfold qWri; rw [up_n (by omega), up_n (by omega), up_s]
  have r6 : qWri Q v w 6 (Q 0 5) = 0 := by unfold qWri; rw [up_n (by omega), up_s]
  refine ⟨⟨by rw [ro 0 0 (by omega) (by omega)]; exact oQ.r, by rw [ro 0 2 (by omega) (by omega)]; exact oQ.b, by rw [r0]; omega⟩, fun k hk => ?_, fun k hk => ?_, fun k hk => ?_, fun k hk => ?_⟩
  · rw [ro 0 0 (by omega) (by omega)] at hk; rw [ro 1 k (by omega) (by omega)]; exact oQ.wide hk
  · rw [ro 0 2 (by omega) (by omega)] at hk; rw [ro 2 k (by omega) (by omega), ro 3 k (by omega) (by omega)]; exact oQ.2.2.1 k hk
  · rw [r0] at hk
    by_cases c : k = Q 0 5
    · rw [c, r4, r5, r6]; omega
    · rw [ro 4 k (by omega) (by omega), ro 5 k (by omega) (by omega), ro 6 k (by omega) (by omega)]; exact oQ.2.2.2.1 k (by omega)
  · rw [ro 7 k (by omega) (by omega)]; exact oQ.kin hk
theorem oQKin (oQ : okP Q) (h1 : w ≤ 9) : okP (qKin Q v w) := by
  have ro : ∀ a b, a ≠ 7 → qKin Q v w a b = Q a b := fun a b h1 => by unfold qKin; rw [up_n (by omega)]
  refine ⟨⟨by rw [ro 0 0 (by omega)]; exact oQ.r, by rw [ro 0 2 (by omega)]; exact oQ.b, by rw [ro 0 5 (by omega)]; exact oQ.w⟩, fun k hk => ?_, fun k hk => ?_, fun k hk => ?_, fun k hk => ?_⟩
  · rw [ro 0 0 (by omega)] at hk; rw [ro 1 k (by omega)]; exact oQ.wide hk
  · rw [ro 0 2 (by omega)] at hk; rw [ro 2 k (by omega), ro 3 k (by omega)]; exact oQ.2.2.1 k hk
  · rw [ro 0 5 (by omega)] at hk; rw [ro 4 k (by omega), ro 5 k (by omega), ro 6 k (by omega)]; exact oQ.2.2.2.1 k hk
  · unfold qKin
    by_cases c : k = v
    · rw [c, up_s]; exact Or.inl (by omega)
    · rw [up_n (by omega)]; exact oQ.kin hk
theorem oQKno (oQ : okP Q) (h0 : v < Q 0 5) (h1 : w < 8) : okP (qKno Q v w) := by
  have ro : ∀ a b, a ≠ 6 → qKno Q v w a b = Q a b := fun a b h1 => by unfold qKno; rw [up_n (by omega)]
  refine ⟨⟨by rw [ro 0 0 (by omega)]; exact oQ.r, by rw [ro 0 2 (by omega)]; exact oQ.b, by rw [ro 0 5 (by omega)]; exact oQ.w⟩, fun k hk => ?_, fun k hk => ?_, fun k hk => ?_, fun k hk => ?_⟩
  · rw [ro 0 0 (by omega)] at hk; rw [ro 1 k (by omega)]; exact oQ.wide hk
  · rw [ro 0 2 (by omega)] at hk; rw [ro 2 k (by omega), ro 3 k (by omega)]; exact oQ.2.2.1 k hk
  · rw [ro 0 5 (by omega)] at hk; rw [ro 4 k (by omega), ro 5 k (by omega)]
    refine ⟨oQ.rch hk, (oQ.chk hk).1, (oQ.chk hk).2, ?_⟩
    unfold qKno
    by_cases c : k = v
    · rw [c, up_s]
      have e1 := oQ.kn h0
      have e2 : 2 ^ w < 2 ^ 8 := Nat.pow_lt_pow_right (by omega) h1
      exact Nat.or_lt_two_pow (n := 8) e1 e2
    · rw [up_n (by omega)]; exact oQ.kn hk
  · rw [ro 7 k (by omega)]; exact oQ.kin hk
theorem oT_ok (ha : a ≤ E) (hT : ∀ i, i < E → T i < 256) (oQ : okP Q) (hf : ¬ full w Q = true) (h : (oT T E a w Q).1 = 0) : okP (oT T E a w Q).2.2.2 ∧ a ≤ (oT T E a w Q).2.2.1 := by
  have hr := oQ.r
  have hb := oQ.b
  have hw2 := oQ.w
  have b1 := nE_b (T := T) ha
  have b2 := nE_b (T := T) b1.2
  have c8 : ¬ ((w = 0 ∧ Q 0 0 = 4) ∨ (w = 1 ∧ Q 0 2 = 8) ∨ (w = 3 ∧ Q 0 5 = 6)) := fun q => hf (full_t.mpr q)
  unfold oT at h ⊢
  by_cases w0 : w = 0
  · rw [if_pos w0] at h ⊢
    by_cases c : nK T E a (nI 1) (nI 30) ≠ 0
    · rw [if_pos c] at h; exact absurd h c
    · rw [if_neg c]
      have := nV_in ha hT (by omega) (by omega) (Decidable.not_not.mp c)
      exact ⟨oQRow oQ (by omega) this.1 this.2, b1.1⟩
  · rw [if_neg w0] at h ⊢
    by_cases w1 : w = 1
    · rw [if_pos w1] at h ⊢
      by_cases c : n2k T E a (nI 0) (nI 9) (nI 1) (nI 15) ≠ 0
      · rw [if_pos c] at h; exact absurd h c
      · rw [if_neg c]
        have c2 := n2k_0 (Decidable.not_not.mp c)
        have v1 := nV_in ha hT (by omega) (by omega) c2.1
        have v2 := nV_in b1.2 hT (by omega) (by omega) c2.2
        exact ⟨oQBid oQ (by omega) v1.2 v2.1 v2.2, by show a ≤ nE T E (nE T E a); omega⟩
    · rw [if_neg w1] at h ⊢
      by_cases w3 : w = 3
      · rw [if_pos w3] at h ⊢
        by_cases c : n2k T E a (nI 0) (nI 3) (nI 1) (nI 60) ≠ 0
        · rw [if_pos c] at h; exact absurd h c
        · rw [if_neg c]
          have c2 := n2k_0 (Decidable.not_not.mp c)
          have v1 := nV_in ha hT (by omega) (by omega) c2.1
          have v2 := nV_in b1.2 hT (by omega) (by omega) c2.2
          exact ⟨oQWri oQ (by omega) v1.2 v2.1 v2.2, by show a ≤ nE T E (nE T E a); omega⟩
      · rw [if_neg w3] at h ⊢
        by_cases w2 : w = 2
        · rw [if_pos w2] at h ⊢
          by_cases c : n2k T E a (nI 0) (nI 9) (nI 0) (nI 9) ≠ 0
          · rw [if_pos c] at h; exact absurd h c
          · rw [if_neg c] at h ⊢
            by_cases c3 : nV T E a = nV T E (nE T E a)
            · rw [if_pos c3] at h; exact absurd h (by show ¬ (2 : Nat) = 0; omega)
            · rw [if_neg c3]
              have c2 := n2k_0 (Decidable.not_not.mp c)
              have v2 := nV_in b1.2 hT (by omega) (by omega) c2.2
              exact ⟨oQKin oQ v2.2, by show a ≤ nE T E (nE T E a); omega⟩
        · rw [if_neg w2] at h ⊢
          by_cases c : n2k T E a (nI 0) (nI (Q 0 5) - nI 1) (nI 0) (nI (Q 0 2) - nI 1) ≠ 0
          · rw [if_pos c] at h; exact absurd h c
          · rw [if_neg c]
            have c2 := n2k_0 (Decidable.not_not.mp c)
            have l1 := nV_lt ha hT
            have l2 := nV_lt b1.2 hT
            have v1 := nK_vs (show Q 0 5 ≤ 100 by omega) (by omega) c2.1
            have v2 := nK_vs (show Q 0 2 ≤ 100 by omega) (by omega) c2.2
            exact ⟨oQKno oQ v1 (by omega), by show a ≤ nE T E (nE T E a); omega⟩
theorem oC_ok (ha : a ≤ E) (hT : ∀ i, i < E → T i < 256) (oQ : okP Q) (h : (oC T E n a Q).1 = 0) : okP (oC T E n a Q).2.2.2 ∧ a < (oC T E n a Q).2.2.1 ∧ n ≠ 60 := by
  have hs := sk_b (T := T) ha
  unfold oC at h ⊢
  by_cases c5 : kw (cR T E a) = 5
  · rw [if_pos c5] at h; exact absurd h (by show ¬ (1 : Nat) = 0; omega)
  · rw [if_neg c5] at h ⊢
    by_cases cf : n = 60 ∨ full (kw (cR T E a)) Q = true
    · rw [if_pos cf] at h; exact absurd h (by show ¬ (3 : Nat) = 0; omega)
    · rw [if_neg cf] at h ⊢
      have hl : (cR T E a).length ≤ E - sk T E a := rl_len ..
      have key := oT_ok (a := sk T E a + (cR T E a).length) (w := kw (cR T E a)) (by omega) hT oQ (fun q => cf (Or.inr q))
      generalize oT T E (sk T E a + (cR T E a).length) (kw (cR T E a)) Q = r at h key ⊢
      unfold oG at h ⊢
      by_cases c1 : r.1 ≠ 0
      · rw [if_pos c1] at h; exact absurd h c1
      · rw [if_neg c1] at h ⊢
        by_cases c2 : sk T E r.2.2.1 < E ∧ T (sk T E r.2.2.1) = 59
        · rw [if_pos c2]
          have k2 := key (Decidable.not_not.mp c1)
          have : r.2.2.1 ≤ sk T E r.2.2.1 := (skN_b (T := T) _ _).1
          exact ⟨k2.1, by show a < sk T E r.2.2.1 + 1; omega, fun q => cf (Or.inl q)⟩
        · rw [if_neg c2] at h; exact absurd h (by show ¬ (1 : Nat) = 0; omega)
/-- what a port's text says -/
def pz (T : Nat → Nat) (E : Nat) : Nat → Nat → Nat → TT → Nat × Nat × Nat × TT
  | 0, a, _, Q => (0, 4294967295, sk T E a, Q)
  | u + 1, a, n, Q =>
    if E ≤ sk T E a then (0, 4294967295, sk T E a, Q)
    else if (oC T E n a Q).1 ≠ 0 then oC T E n a Q
    else pz T E u (oC T E n a Q).2.2.1 (n + 1) (oC T E n a Q).2.2.2
theorem C_pexit (h : CTp M t T E a k f) (hk : k ≠ 0) (x : Int32) (w : Nat) : f_Port_read_b (w + 1) p t x M = some M := by
  have e4 := C_moreF h hk
  unfold f_Port_read_b
  by_cases c : (60 : Int32) < x
  · rw [if_pos c]
  · rw [if_neg c, e4]; rfl
theorem C_pread (ht : t + 1 < p) : ∀ (u a n : Nat) (Q : TT) (w : Nat) (M : Mm), CTp M t T E a 0 4294967295 → isP M p Q → okP Q → n ≤ 60 → E - a < u → 63 ≤ w + n → ∃ M', f_Port_read_b w p t (nI n) M = some M' ∧ FX (tpD t p) M M' ∧ oR M' t p E T (pz T E u a n Q) ∧ ((pz T E u a n Q).1 = 0 → okP (pz T E u a n Q).2.2.2) := by
  intro u
  induction u with
  | zero => intro a n Q w M _ _ _ _ h _; omega
  | succ u ih =>
    intro a n Q w M h hQ oQ hn hu hw
    obtain ⟨w, rfl⟩ : ∃ v, w = v + 2 := ⟨w - 2, by omega⟩
    have hE := h.2.2.1
    obtain ⟨M1, e1, f1, h1⟩ := C_more h
    have f1' : FX (tpD t p) M M1 := f1.mono (fun _ _ q => Or.inl q)
    have hQ1 := hQ.td f1 (by omega)
    have hsk := sk_b (T := T) hE.1
    by_cases c0 : E ≤ sk T E a
    · have ez : pz T E (u + 1) a n Q = (0, 4294967295, sk T E a, Q) := if_pos c0
      rw [ez]
      rw [if_neg (by omega)] at e1
      refine ⟨M1, ?_, f1', Or.inl ⟨rfl, h1, hQ1⟩, fun _ => oQ⟩
      simp (disch := omega) only [f_Port_read_b, e1, bI_s, bV_s, bL_s, bR_s, bG_s, bG_n, bX_l, bX_r, ck_nI, nI_clamp, nI_leT, nI_leF, nI_ltT, nI_ltF, nI_eqF, nI_add, pk_mul, ofN, bt_e, or0, Nat.zero_add, Nat.add_zero, ↓reduceIte, if_true, if_false, Bool.false_eq_true, eq_self, li0, li1, li2, li3, li4, li5, li6, li7, li8, li9, li10, li11, li12, li14, li15, li16, li18, li19, li20, li23, li24, li25, li26, li27, li30, li31, li32, li36, li40, li41, li42, li43, li44, li45, li47, li48, li57, li59, li60, li91, li93, li96, li97, li100, li105, li122, li150, li200, li255, li400, li500, li600, li999, li1000, li1001, li2000, li2001, li2002, li2003, li2004, li2005, li2006, li32767, li100000, li_neg, li13, li17, li21, li22, li28, li29, li33, li34, li35, li37, li38, li39, li46, li49, li50, li51, li52, li53, li63, li80, li115, li160]
    · rw [if_pos (by omega)] at e1
      obtain ⟨M2, M3, e2, e3, f3, h3⟩ := C_clause (n := n) ht h1 hQ1 oQ hn
      have es : oC T E n (sk T E a) Q = oC T E n a Q := by unfold oC cR; rw [sk_i hE.1]
      rw [es] at h3
      have key := oC_ok (n := n) hE.1 h.2.2.2 oQ
      have ez : pz T E (u + 1) a n Q = if (oC T E n a Q).1 ≠ 0 then oC T E n a Q else pz T E u (oC T E n a Q).2.2.1 (n + 1) (oC T E n a Q).2.2.2 := if_neg c0
      rw [ez]
      generalize oC T E n a Q = r at h3 key ⊢
      have e60 : (60 : Int32) < nI n ↔ False := by
        constructor
        · intro q; exact nI_nlt hn (by omega) (show nI 60 < nI n from q)
        · exact False.elim
      have eb : f_Port_read_b (w + 2) p t (nI n) M = f_Port_read_b (w + 1) p t (nI (n + 1)) M3 := by
        conv => lhs; unfold f_Port_read_b
        simp (disch := omega) only [e1, e2, e3, bI_s, bV_s, bL_s, bR_s, bG_s, bG_n, bX_l, bX_r, ck_nI, nI_clamp, nI_leT, nI_leF, nI_ltT, nI_ltF, nI_eqF, nI_add, pk_mul, ofN, bt_e, or0, Nat.zero_add, Nat.add_zero, ↓reduceIte, if_true, if_false, Bool.false_eq_true, eq_self, li0, li1, li2, li3, li4, li5, li6, li7, li8, li9, li10, li11, li12, li14, li15, li16, li18, li19, li20, li23, li24, li25, li26, li27, li30, li31, li32, li36, li40, li41, li42, li43, li44, li45, li47, li48, li57, li59, li60, li91, li93, li96, li97, li100, li105, li122, li150, li200, li255, li400, li500, li600, li999, li1000, li1001, li2000, li2001, li2002, li2003, li2004, li2005, li2006, li32767, li100000, li_neg, li13, li17, li21, li22, li28, li29, li33, li34, li35, li37, li38, li39, li46, li49, li50, li51, li52, li53, li63, li80, li115, li160]
      rcases h3 with ⟨c, h4, h5⟩ | ⟨c, a', h4⟩
      · rw [if_neg (fun q => q c)]
        obtain ⟨k1, k2, k3⟩ := key c
        obtain ⟨M4, e4, f4, h6⟩ := ih r.2.2.1 (n + 1) r.2.2.2 (w + 1) M3 h4 h5 k1 (by omega) (by omega) (by omega)
        exact ⟨M4, eb.trans e4, (f1'.trans f3).trans f4, h6⟩
      · rw [if_pos c]
        exact ⟨M3, eb.trans (C_pexit h4 c _ w), f1'.trans f3, Or.inr ⟨c, a', h4⟩, fun q => absurd q c⟩
theorem M_pread : ∀ (u a n : Nat) (Q : TT) (w : Nat) (M : Mm), a ≤ E → MTp M m T E (sk T E a) 0 4294967295 → gI M m 7 = nI n → isQr M m Q → okP Q → n ≤ 60 → E - a < u → u < w → ∃ M', f_M_port_c w m p0 M = f_M_port_d m p0 M' ∧ FX (clD m) M M' ∧ oRm M' m E T (pz T E u a n Q) := by
  intro u
  induction u with
  | zero => intro a n Q w M _ _ _ _ _ _ h _; omega
  | succ u ih =>
    intro a n Q w M haE h hc hQ oQ hn hu hw
    obtain ⟨w, rfl⟩ : ∃ v, w = v + 2 := ⟨w - 2, by omega⟩
    have hE := h.2.2.1
    have g1 := h.1.1
    have g2 := h.1.2.1
    have g3 := h.1.2.2.1
    by_cases c0 : E ≤ sk T E a
    · have ez : pz T E (u + 1) a n Q = (0, 4294967295, sk T E a, Q) := if_pos c0
      rw [ez]
      refine ⟨M, ?_, FX.rf _ M, Or.inl ⟨rfl, h, hQ⟩⟩
      simp (disch := omega) only [f_M_port_c, g1, g2, g3, bI_s, bV_s, bL_s, bR_s, bG_s, bG_n, bX_l, bX_r, ck_nI, nI_clamp, nI_leT, nI_leF, nI_ltT, nI_ltF, nI_eqF, nI_add, pk_mul, ofN, bt_e, or0, Nat.zero_add, Nat.add_zero, ↓reduceIte, if_true, if_false, Bool.false_eq_true, eq_self, li0, li1, li2, li3, li4, li5, li6, li7, li8, li9, li10, li11, li12, li14, li15, li16, li18, li19, li20, li23, li24, li25, li26, li27, li30, li31, li32, li36, li40, li41, li42, li43, li44, li45, li47, li48, li57, li59, li60, li91, li93, li96, li97, li100, li105, li122, li150, li200, li255, li400, li500, li600, li999, li1000, li1001, li2000, li2001, li2002, li2003, li2004, li2005, li2006, li32767, li100000, li_neg, li13, li17, li21, li22, li28, li29, li33, li34, li35, li37, li38, li39, li46, li49, li50, li51, li52, li53, li63, li80, li115, li160]
    · obtain ⟨M1, e1, f1, h1, hc1⟩ := M_clause h hc hQ oQ hn
      have es : oC T E n (sk T E a) Q = oC T E n a Q := by unfold oC cR; rw [sk_i haE]
      rw [es] at h1 hc1
      have key := oC_ok (n := n) haE h.2.2.2 oQ
      have ez : pz T E (u + 1) a n Q = if (oC T E n a Q).1 ≠ 0 then oC T E n a Q else pz T E u (oC T E n a Q).2.2.1 (n + 1) (oC T E n a Q).2.2.2 := if_neg c0
      rw [ez]
      generalize oC T E n a Q = r at h1 hc1 key ⊢
      rcases h1 with ⟨c, h4, h5⟩ | ⟨c, a', h4⟩
      · rw [if_neg (fun q => q c)]
        obtain ⟨k1, k2, k3⟩ := key c
        obtain ⟨M2, e2, f2, h2⟩ := M_blanks h4
        have hE4 := h4.2.2.1
        have eb : f_M_port_c (w + 2) m p0 M = f_M_port_c (w + 1) m p0 M2 := by
          conv => lhs; unfold f_M_port_c
          simp (disch := omega) only [g1, g2, g3, e1, e2, bI_s, bV_s, bL_s, bR_s, bG_s, bG_n, bX_l, bX_r, ck_nI, nI_clamp, nI_leT, nI_leF, nI_ltT, nI_ltF, nI_eqF, nI_add, pk_mul, ofN, bt_e, or0, Nat.zero_add, Nat.add_zero, ↓reduceIte, if_true, if_false, Bool.false_eq_true, eq_self, li0, li1, li2, li3, li4, li5, li6, li7, li8, li9, li10, li11, li12, li14, li15, li16, li18, li19, li20, li23, li24, li25, li26, li27, li30, li31, li32, li36, li40, li41, li42, li43, li44, li45, li47, li48, li57, li59, li60, li91, li93, li96, li97, li100, li105, li122, li150, li200, li255, li400, li500, li600, li999, li1000, li1001, li2000, li2001, li2002, li2003, li2004, li2005, li2006, li32767, li100000, li_neg, li13, li17, li21, li22, li28, li29, li33, li34, li35, li37, li38, li39, li46, li49, li50, li51, li52, li53, li63, li80, li115, li160]
        obtain ⟨M4, e4, f4, h6⟩ := ih r.2.2.1 (n + 1) r.2.2.2 (w + 1) M2 (by omega) h2 (by rw [f2.2.1 _ _ (by unfold uD; omega)]; exact hc1 c) (h5.mv (fun x j q => f2.2.1 x j (by unfold uD; omega))) k1 (by omega) (by omega) (by omega)
        exact ⟨M4, eb.trans e4, (f1.trans (f2.mono (fun _ _ q => Or.inl (Or.inl q)))).trans f4, h6⟩
      · rw [if_pos c]
        obtain ⟨M2, e2, f2, h2⟩ := M_blanks h4
        have k2 := h2.1.2.2.1
        have hk3 := h4.2.2.1
        refine ⟨M2, ?_, f1.trans (f2.mono (fun _ _ q => Or.inl (Or.inl q))), Or.inr ⟨c, _, h2⟩⟩
        have eb : f_M_port_c (w + 2) m p0 M = f_M_port_c (w + 1) m p0 M2 := by
          conv => lhs; unfold f_M_port_c
          simp (disch := omega) only [g1, g2, g3, e1, e2, bI_s, bV_s, bL_s, bR_s, bG_s, bG_n, bX_l, bX_r, ck_nI, nI_clamp, nI_leT, nI_leF, nI_ltT, nI_ltF, nI_eqF, nI_add, pk_mul, ofN, bt_e, or0, Nat.zero_add, Nat.add_zero, ↓reduceIte, if_true, if_false, Bool.false_eq_true, eq_self, li0, li1, li2, li3, li4, li5, li6, li7, li8, li9, li10, li11, li12, li14, li15, li16, li18, li19, li20, li23, li24, li25, li26, li27, li30, li31, li32, li36, li40, li41, li42, li43, li44, li45, li47, li48, li57, li59, li60, li91, li93, li96, li97, li100, li105, li122, li150, li200, li255, li400, li500, li600, li999, li1000, li1001, li2000, li2001, li2002, li2003, li2004, li2005, li2006, li32767, li100000, li_neg, li13, li17, li21, li22, li28, li29, li33, li34, li35, li37, li38, li39, li46, li49, li50, li51, li52, li53, li63, li80, li115, li160]
        rw [eb]
        simp (disch := omega) only [f_M_port_c, k2, bI_s, bV_s, bL_s, bR_s, bG_s, bG_n, bX_l, bX_r, ck_nI, nI_clamp, nI_leT, nI_leF, nI_ltT, nI_ltF, nI_eqF, nI_add, pk_mul, ofN, bt_e, or0, Nat.zero_add, Nat.add_zero, ↓reduceIte, if_true, if_false, Bool.false_eq_true, eq_self, li0, li1, li2, li3, li4, li5, li6, li7, li8, li9, li10, li11, li12, li14, li15, li16, li18, li19, li20, li23, li24, li25, li26, li27, li30, li31, li32, li36, li40, li41, li42, li43, li44, li45, li47, li48, li57, li59, li60, li91, li93, li96, li97, li100, li105, li122, li150, li200, li255, li400, li500, li600, li999, li1000, li1001, li2000, li2001, li2002, li2003, li2004, li2005, li2006, li32767, li100000, li_neg, li13, li17, li21, li22, li28, li29, li33, li34, li35, li37, li38, li39, li46, li49, li50, li51, li52, li53, li63, li80, li115, li160]
end
