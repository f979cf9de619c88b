/-! # core, 14: texts -/
theorem okV.txt {G : GT} {M : Mm} {a n : Nat} (h : okV G M (vR a 30 n)) : okT G a n := by
  unfold okV at h
  dsimp only at h
  rw [if_pos rfl] at h
  exact h
theorem okV.mkT {G : GT} {M : Mm} {a n : Nat} (h : okT G a n) : okV G M (vR a 30 n) := by
  unfold okV
  dsimp only
  rw [if_pos rfl]
  exact h
theorem strT_len : strT.length = 22 := rfl
theorem Rel.base {G : GT} {M : Mm} {H : Heap} (h : Rel G M H) : ∀ a : Nat, a < (gB G).size → ¬ gAb G a → H[a]? = (gB G)[a]? := fun a h1 _ => h.2.2.1 a h1
/-- the facts of a text at the heap that is there now -/
theorem txt_at {G : GT} {M : Mm} {H : Heap} {s : State} (hG : GK G s) (hrel : Rel G M H) {n : Nat} (hn : n < strT.length) : va_O "java/lang/String" (gK G n) (gAb G) s H ∧ va_OF "java/lang/String" "coder" "B" (.int 0) (gK G n) (gAb G) s H ∧ va_OF "java/lang/String" "value" "[B" (.ref (gV G n)) (gK G n) (gAb G) s H ∧ va_T .byte (gV G n) (strT.getD n ("", 0, "", [])).2.2.2.length (fun j => .int ((strT.getD n ("", 0, "", [])).2.2.2.getD j 0)) (gAb G) s H := by
  have e : strT[n]? = some (strT.getD n ("", 0, "", [])) := by rw [List.getD_eq_getElem?_getD, List.getElem?_eq_getElem hn]; rfl
  obtain ⟨-, q1, q2, q3, q4⟩ := hG.2.2.1 n _ e
  exact ⟨q1.kept hrel.base, q2.kept hrel.base, q3.kept hrel.base, q4.kept hrel.base⟩
def txB (n : Nat) : List Int32 := (strT.getD n ("", 0, "", [])).2.2.2
def o_tval (φ : Fm) : Fm := fun al st M cs ss => match st with
  | Sum.inr (Sum.inr (some (_, k9, n))) :: st => cond (Nat.beq k9 30) (n < 100 ∧ ∀ b : Nat, φ al (vR b 30 (100 + n) :: st) M cs ss) False
  | _ => False
theorem s_tval {Z : ZT} {cc : ByteArray} {own : String} {ret : Option FieldType} {d mc9 ms9 : Nat} {G9 : GT} {Q : Option AV → Mm → Prop} (C : Zok Z cc own ret d G9 mc9 ms9 Q) {pc : Nat} {index : Nat} {φ : Fm} (hd : decode cc pc = .ok (.getfield index, 3)) (hw : Cond.fieldLink own index "java/lang/String" "value" "[B" ∈ lw_tbl) (k : Sd Z φ (pc + 3)) : Sd Z (o_tval φ) pc := by
  obtain ⟨p, e, R, s, m, args, below, meth, c, G, x9, M0, Q', QX, mc, ms⟩ := Z
  obtain ⟨hx, hb, hown, hts, hlk, hr, hG, hR, hQ, rfl, rfl, rfl, hB⟩ := C
  intro al st M cs ss h H locs ls hl hal hst hgr hrel hS
  unfold o_tval at h
  split at h
  · next a k9 n st0 =>
    cases hk9 : Nat.beq k9 30 with
    | false => rw [hk9] at h; exact h.elim
    | true =>
      rw [hk9] at h
      have hkk := Nat.eq_of_beq_eq_true hk9
      subst hkk
      obtain ⟨hn, h⟩ := h
      rcases (okS.head hst).txt with ⟨h1, rfl⟩ | ⟨h1, _⟩
      · obtain ⟨-, -, ⟨cf, k0, fi, f, cell, g1, g2, g3, g4, g5, -⟩, -⟩ := txt_at hG hrel h1
        refine W.getf hx hb hown (hts _ (gtb_in hw rfl)) g1 g2 g3 g4 (v := .ref (gV G n)) g5 rfl rfl hd ?_
        exact k al (vR (gV G n) 30 (100 + n) :: st0) M cs ss (h _) H locs ls hl hal (okS.cons (okV.mkT (Or.inr ⟨by omega, by omega, by rw [Nat.add_sub_cancel_left]⟩)) (okS.tail hst)) hgr hrel hS
      · omega
  · exact h.elim
def o_tcod (φ : Fm) : Fm := fun al st M cs ss => match st with
  | Sum.inr (Sum.inr (some (_, k9, n))) :: st => cond (Nat.beq k9 30) (n < 100 ∧ φ al (vI 0 :: st) M cs ss) False
  | _ => False
theorem s_tcod {Z : ZT} {cc : ByteArray} {own : String} {ret : Option FieldType} {d mc9 ms9 : Nat} {G9 : GT} {Q : Option AV → Mm → Prop} (C : Zok Z cc own ret d G9 mc9 ms9 Q) {pc : Nat} {index : Nat} {φ : Fm} (hd : decode cc pc = .ok (.getfield index, 3)) (hw : Cond.fieldLink own index "java/lang/String" "coder" "B" ∈ lw_tbl) (k : Sd Z φ (pc + 3)) : Sd Z (o_tcod φ) pc := by
  obtain ⟨p, e, R, s, m, args, below, meth, c, G, x9, M0, Q', QX, mc, ms⟩ := Z
  obtain ⟨hx, hb, hown, hts, hlk, hr, hG, hR, hQ, rfl, rfl, rfl, hB⟩ := C
  intro al st M cs ss h H locs ls hl hal hst hgr hrel hS
  unfold o_tcod at h
  split at h
  · next a k9 n st0 =>
    cases hk9 : Nat.beq k9 30 with
    | false => rw [hk9] at h; exact h.elim
    | true =>
      rw [hk9] at h
      have hkk := Nat.eq_of_beq_eq_true hk9
      subst hkk
      obtain ⟨hn, h⟩ := h
      rcases (okS.head hst).txt with ⟨h1, rfl⟩ | ⟨h1, _⟩
      · obtain ⟨-, ⟨cf, k0, fi, f, cell, g1, g2, g3, g4, g5, -⟩, -, -⟩ := txt_at hG hrel h1
        refine W.getf hx hb hown (hts _ (gtb_in hw rfl)) g1 g2 g3 g4 (v := .int 0) g5 rfl rfl hd ?_
        exact k al (vI 0 :: st0) M cs ss h H locs ls hl hal (okS.cons trivial (okS.tail hst)) hgr hrel hS
      · omega
  · exact h.elim
def o_tlen (φ : Fm) : Fm := fun al st M cs ss => match st with
  | Sum.inr (Sum.inr (some (_, k9, n))) :: st => cond (Nat.beq k9 30) (100 ≤ n ∧ φ al (vI (Int32.ofNat (txB (n - 100)).length) :: st) M cs ss) False
  | _ => False
theorem s_tlen {Z : ZT} {cc : ByteArray} {own : String} {ret : Option FieldType} {d mc9 ms9 : Nat} {G9 : GT} {Q : Option AV → Mm → Prop} (C : Zok Z cc own ret d G9 mc9 ms9 Q) {pc : Nat} {φ : Fm} (hd : decode cc pc = .ok (.arraylength, 1)) (k : Sd Z φ (pc + 1)) : Sd Z (o_tlen φ) pc := by
  obtain ⟨p, e, R, s, m, args, below, meth, c, G, x9, M0, Q', QX, mc, ms⟩ := Z
  obtain ⟨hx, hb, hown, hts, hlk, hr, hG, hR, hQ, rfl, rfl, rfl, hB⟩ := C
  intro al st M cs ss h H locs ls hl hal hst hgr hrel hS
  unfold o_tlen at h
  split at h
  · next a k9 n st0 =>
    cases hk9 : Nat.beq k9 30 with
    | false => rw [hk9] at h; exact h.elim
    | true =>
      rw [hk9] at h
      have hkk := Nat.eq_of_beq_eq_true hk9
      subst hkk
      obtain ⟨hn, h⟩ := h
      rcases (okS.head hst).txt with ⟨h1, _⟩ | ⟨_, h1, rfl⟩
      · rw [strT_len] at h1; omega
      · obtain ⟨-, -, -, ⟨cell, g1, g2, g3, g4, g5, g6, -⟩⟩ := txt_at hG hrel (n := n - 100) (by omega)
        exact W.alen (n := Int32.ofNat (txB (n - 100)).length) hx hb g1 g2 g5 rfl rfl hd (k al _ M cs ss h H locs ls hl hal (okS.cons trivial (okS.tail hst)) hgr hrel hS)
  · exact h.elim
def o_tbld (φ : Fm) : Fm := fun al st M cs ss => match st with
  | Sum.inl i :: Sum.inr (Sum.inr (some (_, k9, n))) :: st => cond (Nat.beq k9 30) (100 ≤ n ∧ vp_in i (txB (n - 100)).length ∧ φ al (vI ((txB (n - 100)).getD i.toNatClampNeg 0) :: st) M cs ss) False
  | _ => False
theorem s_tbld {Z : ZT} {cc : ByteArray} {own : String} {ret : Option FieldType} {d mc9 ms9 : Nat} {G9 : GT} {Q : Option AV → Mm → Prop} (C : Zok Z cc own ret d G9 mc9 ms9 Q) {pc : Nat} {φ : Fm} (hd : decode cc pc = .ok (.baload, 1)) (k : Sd Z φ (pc + 1)) : Sd Z (o_tbld φ) pc := by
  obtain ⟨p, e, R, s, m, args, below, meth, c, G, x9, M0, Q', QX, mc, ms⟩ := Z
  obtain ⟨hx, hb, hown, hts, hlk, hr, hG, hR, hQ, rfl, rfl, rfl, hB⟩ := C
  intro al st M cs ss h H locs ls hl hal hst hgr hrel hS
  unfold o_tbld at h
  split at h
  · next i a k9 n st0 =>
    cases hk9 : Nat.beq k9 30 with
    | false => rw [hk9] at h; exact h.elim
    | true =>
      rw [hk9] at h
      have hkk := Nat.eq_of_beq_eq_true hk9
      subst hkk
      obtain ⟨hn, hi, h⟩ := h
      rcases (okS.head (okS.tail hst)).txt with ⟨h1, _⟩ | ⟨_, h1, rfl⟩
      · rw [strT_len] at h1; omega
      · obtain ⟨-, -, -, ⟨cell, g1, g2, g3, g4, g5, g6, -⟩⟩ := txt_at hG hrel (n := n - 100) (by omega)
        have hlt := vp_in_lt hi
        have hin' : ¬ (i < 0 ∨ cell.slots.size ≤ i.toNatClampNeg) := by
          intro q
          rcases q with q | q
          · exact hi (Or.inl q)
          · unfold txB at hlt; omega
        exact W.bald (v := .int ((txB (n - 100)).getD i.toNatClampNeg 0)) hx hb g1 g2 g3 hin' (g6 _ hlt) rfl rfl hd (k al _ M cs ss h H locs ls hl hal (okS.cons trivial (okS.tail (okS.tail hst))) hgr hrel hS)
  · exact h.elim
theorem s_gets1 {Z : ZT} {cc : ByteArray} {own : String} {ret : Option FieldType} {d mc9 ms9 : Nat} {G9 : GT} {Q : Option AV → Mm → Prop} (C : Zok Z cc own ret d G9 mc9 ms9 Q) {pc : Nat} {index : Nat} {φ : Fm} (hd : decode cc pc = .ok (.getstatic index, 3)) (hw : Cond.fieldLink own index "java/lang/String" "COMPACT_STRINGS" "Z" ∈ lw_tbl) (k : Sd Z φ (pc + 3)) : Sd Z (o_push (vI 1) φ) pc := by
  obtain ⟨p, e, R, s, m, args, below, meth, c, G, x9, M0, Q', QX, mc, ms⟩ := Z
  obtain ⟨hx, hb, hown, hts, hlk, hr, hG, hR, hQ, rfl, rfl, rfl, hB⟩ := C
  intro al st M cs ss h H locs ls hl hal hst hgr hrel hS
  have hsub : ∀ q : Nat, q < (gB G).size → ¬ gAb G q → s.heap[q]? = (gB G)[q]? := fun q h1 h2 => by
    rw [← hS.2.1 q (Nat.lt_of_lt_of_le h1 hB) h2]; exact hrel.2.2.1 q h1
  exact va_gets hx hb (hG.2.2.2.1.kept hsub) hS hown (hts _ (gtb_in hw rfl)) (fun _ h => h) hd (k al (vI 1 :: st) M cs ss h H locs ls hl hal (okS.cons trivial hst) hgr hrel hS)
theorem s_getsF {Z : ZT} {cc : ByteArray} {own : String} {ret : Option FieldType} {d mc9 ms9 : Nat} {G9 : GT} {Q : Option AV → Mm → Prop} (C : Zok Z cc own ret d G9 mc9 ms9 Q) {pc : Nat} {index : Nat} {φ : Fm} (hd : decode cc pc = .ok (.getstatic index, 3)) (hw : Cond.fieldLink own index "jdk/internal/util/Preconditions" "SIOOBE_FORMATTER" "Ljava/util/function/BiFunction;" ∈ lw_tbl) (k : Sd Z φ (pc + 3)) : Sd Z (fun al st M cs ss => φ al (vN :: st) M cs ss ∧ ∀ a : Nat, φ al (vR a 32 0 :: st) M cs ss) pc := by
  obtain ⟨p, e, R, s, m, args, below, meth, c, G, x9, M0, Q', QX, mc, ms⟩ := Z
  obtain ⟨hx, hb, hown, hts, hlk, hr, hG, hR, hQ, rfl, rfl, rfl, hB⟩ := C
  intro al st M cs ss h H locs ls hl hal hst hgr hrel hS
  have hsub : ∀ q : Nat, q < (gB G).size → ¬ gAb G q → s.heap[q]? = (gB G)[q]? := fun q h1 h2 => by
    rw [← hS.2.1 q (Nat.lt_of_lt_of_le h1 hB) h2]; exact hrel.2.2.1 q h1
  rcases (hG.2.2.2.2.2.2.2.2.2.2).kept hsub with hZ | ⟨t, hZ⟩
  · exact va_gets hx hb hZ hS hown (hts _ (gtb_in hw rfl)) (fun _ h => h) hd (k al (vN :: st) M cs ss h.1 H locs ls hl hal (okS.cons trivial hst) hgr hrel hS)
  · exact va_gets hx hb hZ hS hown (hts _ (gtb_in hw rfl)) (fun _ h => h) hd (k al (vR t 32 0 :: st) M cs ss (h.2 t) H locs ls hl hal (okS.cons (okV.exc t) hst) hgr hrel hS)
/-- a call of a text's method, that answers an int -/
def o_cT (K : List AV → Mm → (Option AV → Mm → Prop) → Prop) (n : Nat) (φ : Fm) : Fm := fun al st M cs ss => match st.drop n with
  | Sum.inr (Sum.inr (some (b, k9, n9))) :: rest => cond (Nat.beq k9 30 && sl8 rest && Nat.ble n st.length) (n9 < 100 ∧ ∃ P : Int32 → Mm → Prop, K (vR b k9 n9 :: (st.take n).reverse) M (Qi P) ∧ ∀ (z : Int32) (M' : Mm), P z M' → φ al (vI z :: rest) M' cs ss) False
  | _ => False
theorem s_cT {Z : ZT} {cc : ByteArray} {own : String} {ret : Option FieldType} {d mc9 ms9 : Nat} {G9 : GT} {Q : Option AV → Mm → Prop} (C : Zok Z cc own ret d G9 mc9 ms9 Q) {pc : Nat} {n index : Nat} {q : MD} {φ : Fm} (hd : decode cc pc = .ok (.invokevirtual index, 3)) (hm : MOk q n) (hV : MV q) (L : LkM own index q.1) (hcl : q.1.cls = "java/lang/String") (hd1 : 1 ≤ d) (k : Sd Z φ (pc + 3)) : Sd Z (o_cT (fun avs M Q2 => CT G9 none (d - 1) 0 0 q avs M Q2) n φ) pc := by
  obtain ⟨p, e, R, s, m, args, below, meth, c, G, x9, M0, Q', QX, mc, ms⟩ := Z
  obtain ⟨hx, hb, hown, hts, hlk, hr, hG, hR, hQ, rfl, rfl, rfl, hB⟩ := C
  intro al st M cs ss h H locs ls hl hal hst hgr hrel hS
  unfold o_cT at h
  split at h
  · next b k9 n9 rest hdrop =>
    cases hc9 : (Nat.beq k9 30 && sl8 rest && Nat.ble n st.length) with
    | false => rw [hc9] at h; exact h.elim
    | true =>
      rw [hc9] at h
      simp only [Bool.and_eq_true] at hc9
      have hkk := Nat.eq_of_beq_eq_true hc9.1.1
      subst hkk
      obtain ⟨hn9, P, h2, h3⟩ := h
      have hnd : cs + 0 ≤ mc ∧ ss + 0 ≤ ms := ⟨hgr.2.1, hgr.2.2⟩
      have hdr := hst.drop n
      rw [hdrop] at hdr
      have hrs := okS.tail hdr
      have hml : ls.size = c.maxLocals := hl.1
      have e0 : st.map cv = (((st.take n).reverse).map cv).reverse ++ .ref b :: rest.map cv := by rw [st_split st n, hdrop]; rfl
      rw [e0]
      have hrecv : ∃ cellB : Cell, H[b]? = some cellB ∧ cellB.vm.isStatics = false ∧ s.vm.findClass q.1.cls = some cellB.cls := by
        rcases (okS.head hdr).txt with ⟨h1, rfl⟩ | ⟨h1, _⟩
        · obtain ⟨⟨cell, g1, g2, g3, -⟩, -⟩ := txt_at hG hrel h1
          exact ⟨cell, g1, g2, by rw [hcl]; exact g3⟩
        · omega
      refine W_callV (mc2 := 0) (ms2 := 0) hx hb hown hts hG hR hm hV L h2 rfl hrecv (by rw [List.length_reverse, List.length_take]; have := Nat.le_of_ble_eq_true hc9.2; omega) hrel (okS.cons (okS.head hdr) (hst.take n)) hS hd1 (cat8 hc9.1.2) hml hd hnd fun r M1 H1 locs1 hq hok1 hg1 hrel1 hS1 => ?_
      obtain ⟨z, rfl, hP⟩ := hq
      exact k al (vI z :: rest) M1 _ _ (h3 z M1 hP) H1 locs1 ls hl (hal.grow hg1) (okS.cons trivial (okS.grow hg1 hrs)) (hgr.call hg1 hnd) hrel1 hS1
  · exact h.elim
def o_nret (ty : FieldType) (P : Int32 → Mm → Prop) : Fm := fun _ st M _ _ => match st with
  | [Sum.inl v] => narrow ty (.int v) = .int v ∧ P v M
  | _ => False
theorem s_nret {Z : ZT} {cc : ByteArray} {own : String} {d mc9 ms9 pc : Nat} {G9 : GT} {ty : FieldType} {P : Int32 → Mm → Prop} (C : Zok Z cc own (some ty) d G9 mc9 ms9 (Qi P)) (hd : decode cc pc = .ok (.ireturn, 1)) : Sd Z (o_nret ty P) pc := by
  obtain ⟨p, e, R, s, m, args, below, meth, c, G, x9, M0, Q', QX, mc, ms⟩ := Z
  obtain ⟨hx, hb, hown, hts, hlk, hr, hG, hR, rfl, rfl, rfl, rfl, hB⟩ := C
  intro al st M cs ss h H locs ls hl hal hst hgr hrel hS
  unfold o_nret at h
  split at h
  · next v =>
    refine W.widen hgr.2.1 hgr.2.2 (vx_ret ?_)
    exact W.zret (v := v) hx hb hr h.1 (fun t ht hW => ⟨some (vI v), M, rfl, ⟨v, rfl, h.2⟩, fun w hw => by cases hw; trivial, hgr.1, by rw [ht]; exact hrel, hS.F ht⟩) hS.2.2 hd hlk
  · exact h.elim
