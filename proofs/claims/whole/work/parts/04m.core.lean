/-! # core, 12: caught calls, calls of methods with a table, the script, texts, copies -/
def o_cVXc (r : Nat) (K : List AV → Mm → (Option AV → Mm → Prop) → (Nat → Mm → Prop) → Prop) (n kk mc ms mc2 ms2 : Nat) (φ : Fm) (φ0 φ1 : Fm) : Fm := fun al st M cs ss => match st.drop n with
  | Sum.inr (Sum.inr (some (b, k9, n9))) :: rest => cond (Nat.beq k9 kk && sl8 rest && Nat.ble n st.length) (need mc2 ms2 cs ss mc ms (cond (Nat.beq r 0)
      (∃ (P : Int32 → Mm → Prop) (PX : Nat → Mm → Prop), K (vR b k9 n9 :: (st.take n).reverse) M (Qi P) PX ∧ (∀ z M', P z M' → φ al (vI z :: rest) M' (cs + mc2) (ss + ms2)) ∧ (∀ M', PX 0 M' → ∀ a : Nat, φ0 al [vR a 32 0] M' (cs + mc2) (ss + ms2)) ∧ (∀ M', PX 1 M' → ∀ a : Nat, φ1 al [vR a 32 0] M' (cs + mc2) (ss + ms2)) ∧ (∀ k M', PX k M' → k ≤ 1))
      (∃ (P : Int64 → Mm → Prop) (PX : Nat → Mm → Prop), K (vR b k9 n9 :: (st.take n).reverse) M (Ql P) PX ∧ (∀ z M', P z M' → φ al (vL z :: rest) M' (cs + mc2) (ss + ms2)) ∧ (∀ M', PX 0 M' → ∀ a : Nat, φ0 al [vR a 32 0] M' (cs + mc2) (ss + ms2)) ∧ (∀ M', PX 1 M' → ∀ a : Nat, φ1 al [vR a 32 0] M' (cs + mc2) (ss + ms2)) ∧ (∀ k M', PX k M' → k ≤ 1)))) False
  | _ => False
theorem okV.exc {G : GT} {M : Mm} (a : Nat) : okV G M (vR a 32 0) := by
  unfold okV
  dsimp only
  rw [if_neg (by decide), if_neg (by decide), if_pos rfl]
  trivial
theorem s_cVXc {Z : ZT} {cc : ByteArray} {own : String} {ret : Option FieldType} {d mc9 ms9 : Nat} {G9 : GT} {Q : Option AV → Mm → Prop} (C : Zok Z cc own ret d G9 mc9 ms9 Q) {pc : Nat} (r : Nat) {n kk index mc2 ms2 N t0 t1 : Nat} {T0 : u_T} {q : MD} {φ φ0 φ1 : Fm} (hd : decode cc pc = .ok (.invokevirtual index, 3)) (hm : MOk q n) (hV : MV q) (L : Cond.methodLink own index q.1 ∈ lw_tbl) (hk0 : objK kk = true) (hcl : vwCl[cix kk]? = some (q.1.cls, T0, N)) (hd1 : 1 ≤ d) (k : Sd Z φ (pc + 3))
    (c0 : (∀ al st M cs ss, ¬ φ0 al st M cs ss) ∨ (Cat Z pc 0 t0 ∧ Sd Z φ0 t0)) (c1 : (∀ al st M cs ss, ¬ φ1 al st M cs ss) ∨ (Cat Z pc 1 t1 ∧ Sd Z φ1 t1)) :
    Sd Z (o_cVXc r (fun avs M Q2 QX2 => CTX G9 none (d - 1) mc2 ms2 q avs M Q2 QX2) n kk mc9 ms9 mc2 ms2 φ φ0 φ1) pc := by
  obtain ⟨p, e, R, s, m, args, below, meth, c, G, x9, M0, Q', QX, mc, ms⟩ := Z
  obtain ⟨hx, hb, hown, hts, hlk, hr, hG, hR, hQ, rfl, rfl, rfl, hB⟩ := C
  intro al st M cs ss h H locs ls hl hal hst hgr hrel hS
  unfold o_cVXc at h
  split at h
  · next b k9 n9 rest hdrop =>
    cases hc9 : (Nat.beq k9 kk && sl8 rest && Nat.ble n st.length) with
    | false => rw [hc9] at h; exact h.elim
    | true =>
      rw [hc9] at h
      simp only [Bool.and_eq_true] at hc9
      have hkk := Nat.eq_of_beq_eq_true hc9.1.1
      subst hkk
      obtain ⟨hnd, h⟩ := h.to hgr.2.1 hgr.2.2
      have hdr := hst.drop n
      rw [hdrop] at hdr
      have hq := objK_lt hk0
      have hkd := (okS.head hdr).ref hq.2.2.2.2.2.2.1 hq.2.2.2.2.2.2.2.1 hq.2.2.2.2.2.2.2.2
      have hat := hrel.at (a := b) (by rw [hkd.1]; exact hkd.2)
      rw [ce_obj hk0 hkd.1] at hat
      have hrs := okS.tail hdr
      have hml : ls.size = c.maxLocals := hl.1
      have e0 : st.map cv = (((st.take n).reverse).map cv).reverse ++ .ref b :: rest.map cv := by rw [st_split st n, hdrop]; rfl
      rw [e0]
      have hlen : (st.take n).reverse.length = n := by rw [List.length_reverse, List.length_take]; have := Nat.le_of_ble_eq_true hc9.2; omega
      have fin : ∀ (PX : Nat → Mm → Prop), (∀ M', PX 0 M' → ∀ a : Nat, φ0 al [vR a 32 0] M' (cs + mc2) (ss + ms2)) → (∀ M', PX 1 M' → ∀ a : Nat, φ1 al [vR a 32 0] M' (cs + mc2) (ss + ms2)) → (∀ k M', PX k M' → k ≤ 1) →
          ∀ (k : Nat) (M' : Mm) (H1 : Heap) (locs1 : List Loc) (z : Addr) (ce : Cell), PX k M' → Grow none M M' → Rel G M' H1 → va_S (gAb G) s.heap H1 locs1 → H1[z]? = some ce → ce.vm = .none → s.vm.findClass (excN k) = some ce.cls → vx_W p (gl G) e R s m args below meth c H1 locs1 (cs + mc2) (ss + ms2) (vx_MQ below (QcA G x9 M0 Q') (XcA G x9 M0 QX) args s mc ms (gAb G)) (F0 m pc ls (rest.map cv)) z := by
        intro PX p0 p1 p2 k1 M1 H1 locs1 z ce1 hP hg1 hrel1 hS1 g1 g2 g3
        have hk1 := p2 k1 M1 hP
        have okx : okS G M1 [vR z 32 0] := okS.cons (okV.exc z) (fun v hv => absurd hv List.not_mem_nil)
        rcases (show k1 = 0 ∨ k1 = 1 by omega) with rfl | rfl
        · rcases c0 with g | ⟨g, gs⟩
          · exact absurd (p0 M1 hP z) (g _ _ _ _ _)
          · exact g H1 locs1 ls _ _ _ z ce1 _ g1 g2 g3 (gs al [vR z 32 0] M1 _ _ (p0 M1 hP z) H1 locs1 ls hl (hal.grow hg1) okx (hgr.call hg1 hnd) hrel1 hS1)
        · rcases c1 with g | ⟨g, gs⟩
          · exact absurd (p1 M1 hP z) (g _ _ _ _ _)
          · exact g H1 locs1 ls _ _ _ z ce1 _ g1 g2 g3 (gs al [vR z 32 0] M1 _ _ (p1 M1 hP z) H1 locs1 ls hl (hal.grow hg1) okx (hgr.call hg1 hnd) hrel1 hS1)
      cases hr0 : Nat.beq r 0 with
      | true =>
        rw [hr0] at h
        obtain ⟨P, PX, h2, h3, h4, h5, h6⟩ := h
        refine W_callVX hx hb hown hts hG hR hm hV L h2 rfl (va_recv hG.1 (va_P1 hat) hcl (q0 := 0) rfl) hlen hrel (okS.cons (okS.head hdr) (hst.take n)) hS hd1 (cat8 hc9.1.2) hml hd hnd (fun r M1 H1 locs1 hq hok1 hg1 hrel1 hS1 => ?_) (fin PX h4 h5 h6)
        obtain ⟨z, rfl, hP⟩ := hq
        exact k al (vI z :: rest) M1 _ _ (h3 z M1 hP) H1 locs1 ls hl (hal.grow hg1) (okS.cons trivial (okS.grow hg1 hrs)) (hgr.call hg1 hnd) hrel1 hS1
      | false =>
        rw [hr0] at h
        obtain ⟨P, PX, h2, h3, h4, h5, h6⟩ := h
        refine W_callVX hx hb hown hts hG hR hm hV L h2 rfl (va_recv hG.1 (va_P1 hat) hcl (q0 := 0) rfl) hlen hrel (okS.cons (okS.head hdr) (hst.take n)) hS hd1 (cat8 hc9.1.2) hml hd hnd (fun r M1 H1 locs1 hq hok1 hg1 hrel1 hS1 => ?_) (fin PX h4 h5 h6)
        obtain ⟨z, rfl, hP⟩ := hq
        exact k al (vL z :: rest) M1 _ _ (h3 z M1 hP) H1 locs1 ls hl (hal.grow hg1) (okS.cons trivial (okS.grow hg1 hrs)) (hgr.call hg1 hnd) hrel1 hS1
  · exact h.elim
/-- a static call of a method with a table (it answers an int) -/
theorem s_cSW {Z : ZT} {cc : ByteArray} {own : String} {ret : Option FieldType} {d mc9 ms9 : Nat} {G9 : GT} {Q : Option AV → Mm → Prop} (C : Zok Z cc own ret d G9 mc9 ms9 Q) {pc : Nat} {n index mc2 ms2 : Nat} {q : MD} {hh : List (Nat × Nat × Nat × Nat)} {φ : Fm} (hd : decode cc pc = .ok (.invokestatic index, 3)) (hm : MOkW q hh n) (hV : MS q) (L : Cond.methodLink own index q.1 ∈ lw_tbl) (hd1 : 1 ≤ d) (k : Sd Z φ (pc + 3)) :
    Sd Z (o_cSi (fun avs M Q2 => CTW G9 (d - 1) mc2 ms2 q hh avs M Q2) n mc9 ms9 mc2 ms2 φ) pc := by
  obtain ⟨p, e, R, s, m, args, below, meth, c, G, x9, M0, Q', QX, mc, ms⟩ := Z
  obtain ⟨hx, hb, hown, hts, hlk, hr, hG, hR, hQ, rfl, rfl, rfl, hB⟩ := C
  intro al st M cs ss h H locs ls hl hal hst hgr hrel hS
  unfold o_cSi at h
  cases hc9 : (sl8 (st.drop n) && Nat.ble n st.length) with
  | false => rw [hc9] at h; exact h.elim
  | true =>
    rw [hc9] at h
    simp only [Bool.and_eq_true] at hc9
    obtain ⟨hnd, P, h2, h3⟩ := h.to hgr.2.1 hgr.2.2
    have hrs := hst.drop n
    have hml : ls.size = c.maxLocals := hl.1
    have hlen : (st.take n).reverse.length = n := by rw [List.length_reverse, List.length_take]; have := Nat.le_of_ble_eq_true hc9.2; omega
    rw [st_split st n]
    have hroom := room_ok (mc2 := mc2) (ms2 := ms2) hm.2.2.2.2.2 hd1 hR rfl
    have hgood : GoodIn gtb (va_wsS own index q.1 (Cond.codeWith q.1 q.2.1 q.2.2.1 q.2.2.2 hh :: gtb)) := by
      intro w hw
      have h9 : w ∈ gtb := by
        unfold va_wsS at hw
        rcases List.mem_append.mp hw with e1 | e1
        · rcases List.mem_cons.mp e1 with e2 | e1
          · rw [e2]; exact gtb_in L rfl
          rcases List.mem_cons.mp e1 with e2 | e1
          · rw [e2]; exact gtb_in hV rfl
          rw [List.mem_singleton.mp e1]; exact gtb_in hm.2.1 rfl
        · rcases List.mem_cons.mp e1 with e2 | e2
          · rw [e2]; exact gtb_in hm.1 rfl
          · exact e2
      exact ⟨h9, good_of_word (List.mem_filter.mp h9).2⟩
    refine after_run (vx_runSW (As := (st.take n).reverse.map cv) (rest := (st.drop n).map cv) ⟨hx, hb, rfl, hown, hts⟩ h2 (vx_cwSW n hts hgood rfl rfl rfl ⟨hm.2.2.2.1.1, hm.2.2.2.1.2, hm.2.2.2.2.1⟩ hroom) ⟨PcA_blind _ _ _, PcA_pre hG hrel (hst.take n)⟩ rfl (by rw [List.length_map]; exact hlen) hml rfl (lv_room (cat8 hc9.1)) hd ⟨Nat.le_trans hnd.1 hR.2.2.1, Nat.le_trans hnd.2 hR.2.2.2⟩) hS fun r M1 H1 locs1 hq hok1 hg1 hrel1 hS1 => ?_
    obtain ⟨z, rfl, hP⟩ := hq
    exact k al (vI z :: (st.drop n)) M1 _ _ (h3 z M1 hP) H1 locs1 ls hl (hal.grow hg1) (okS.cons trivial (okS.grow hg1 hrs)) (hgr.call hg1 hnd) hrel1 hS1
/-! ## the script -/
def o_sld (G : GT) (φ : Fm) : Fm := fun al st M cs ss => match st with
  | Sum.inl i :: Sum.inr (Sum.inr (some (_, k9, n))) :: st => cond (Nat.beq k9 31) (vp_in i n ∧ φ al (vI ((gS G).2.2 i.toNatClampNeg) :: st) M cs ss) False
  | _ => False
theorem okV.scr {G : GT} {M : Mm} {a n : Nat} (h : okV G M (vR a 31 n)) : a = (gS G).1 ∧ n = (gS G).2.1 := by
  unfold okV at h
  dsimp only at h
  rw [if_neg (by decide), if_pos rfl] at h
  exact h
theorem Rel.scr {G : GT} {M : Mm} {H : Heap} {U : State} (h : Rel G M H) (hX : va_X (gS G).1 (gS G).2.1 (gS G).2.2 U (gB G)) (hl : (gS G).1 < (gB G).size) : va_X (gS G).1 (gS G).2.1 (gS G).2.2 U H := by
  obtain ⟨scr, h1, h2⟩ := hX
  exact ⟨scr, by rw [h.2.2.1 _ hl]; exact h1, h2⟩
theorem s_sld {Z : ZT} {cc : ByteArray} {own : String} {ret : Option FieldType} {d mc9 ms9 : Nat} {G9 : GT} {Q : Option AV → Mm → Prop} (C : Zok Z cc own ret d G9 mc9 ms9 Q) {pc : Nat} {φ : Fm} (hd : decode cc pc = .ok (.iaload, 1)) (k : Sd Z φ (pc + 1)) : Sd Z (o_sld G9 φ) pc := by
  obtain ⟨p, e, R, s, m, args, below, meth, c, G, x9, M0, Q', QX, mc, ms⟩ := Z
  obtain ⟨hx, hb, hown, hts, hlk, hr, hG, hR, hQ, rfl, rfl, rfl, hB⟩ := C
  intro al st M cs ss h H locs ls hl hal hst hgr hrel hS
  unfold o_sld at h
  split at h
  · next i a k9 n st0 =>
    cases hk9 : Nat.beq k9 31 with
    | false => rw [hk9] at h; exact h.elim
    | true =>
      rw [hk9] at h
      have hkk := Nat.eq_of_beq_eq_true hk9
      subst hkk
      obtain ⟨rfl, rfl⟩ := (okS.head (okS.tail hst)).scr
      have hX := hrel.scr hG.2.2.2.2.2.2.1 hG.2.2.2.2.2.2.2.1
      obtain ⟨scr, g1, g2, g3, g4, g5⟩ := hX
      have hlt := vp_in_lt h.1
      exact W.iald (v := .int ((gS G).2.2 i.toNatClampNeg)) hx hb g1 g2 g3 (by rw [g4]; exact h.1) (g5 _ hlt) rfl rfl hd (k al _ M cs ss h.2 H locs ls hl hal (okS.cons trivial (okS.tail (okS.tail hst))) hgr hrel hS)
  · exact h.elim
def o_slen (φ : Fm) : Fm := fun al st M cs ss => match st with
  | Sum.inr (Sum.inr (some (_, k9, n))) :: st => cond (Nat.beq k9 31) (φ al (vI (Int32.ofNat n) :: st) M cs ss) False
  | _ => False
theorem s_slen {Z : ZT} {cc : ByteArray} {own : String} {ret : Option FieldType} {d mc9 ms9 : Nat} {G9 : GT} {Q : Option AV → Mm → Prop} (C : Zok Z cc own ret d G9 mc9 ms9 Q) {pc : Nat} {φ : Fm} (hd : decode cc pc = .ok (.arraylength, 1)) (k : Sd Z φ (pc + 1)) : Sd Z (o_slen φ) pc := by
  obtain ⟨p, e, R, s, m, args, below, meth, c, G, x9, M0, Q', QX, mc, ms⟩ := Z
  obtain ⟨hx, hb, hown, hts, hlk, hr, hG, hR, hQ, rfl, rfl, rfl, hB⟩ := C
  intro al st M cs ss h H locs ls hl hal hst hgr hrel hS
  unfold o_slen at h
  split at h
  · next a k9 n st0 =>
    cases hk9 : Nat.beq k9 31 with
    | false => rw [hk9] at h; exact h.elim
    | true =>
      rw [hk9] at h
      have hkk := Nat.eq_of_beq_eq_true hk9
      subst hkk
      obtain ⟨rfl, rfl⟩ := (okS.head hst).scr
      obtain ⟨scr, g1, g2, g3, g4, g5⟩ := hrel.scr hG.2.2.2.2.2.2.1 hG.2.2.2.2.2.2.2.1
      exact W.alen (n := Int32.ofNat (gS G).2.1) hx hb g1 g2 (by rw [g4] <;> rfl) rfl rfl hd (k al _ M cs ss h H locs ls hl hal (okS.cons trivial (okS.tail hst)) hgr hrel hS)
  · exact h.elim
