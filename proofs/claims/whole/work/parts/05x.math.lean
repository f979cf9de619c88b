/-! # Math.min, Math.max (wip/gen/mk_math.py) -/
def mnI (x y : Int32) : Int32 := if y < x then y else x
def mxI (x y : Int32) : Int32 := if x < y then y else x
def o_mm (f : Int32 → Int32 → Int32) (φ : Fm) : Fm := fun al st M cs ss => match st with
  | Sum.inl y :: Sum.inl x :: st => cond (sl8 st) (φ al (vI (f x y) :: st) M cs ss) False
  | _ => False
theorem wq_min : Cond.static Lib.Math.min.name ∈ lw_tbl ∧ Cond.initialized "java/lang/Math" ∈ lw_tbl ∧ Cond.code Lib.Math.min.name Lib.Math.min.code 2 (some .int) ∈ lw_tbl := ⟨by decide +kernel, by decide +kernel, by decide +kernel⟩
theorem s_mmin {Z : ZT} {cc : ByteArray} {own : String} {ret : Option FieldType} {d mc9 ms9 : Nat} {G9 : GT} {Q : Option AV → Mm → Prop} (C : Zok Z cc own ret d G9 mc9 ms9 Q) {pc : Nat} {index : Nat} {φ : Fm} (hd : decode cc pc = .ok (.invokestatic index, 3)) (w1 : Cond.methodLink own index Lib.Math.min.name ∈ lw_tbl) (hd1 : 1 ≤ d) (k : Sd Z φ (pc + 3)) : Sd Z (o_mm mnI φ) pc := by
  obtain ⟨p, e, R, s, m, args, below, meth, c, G, x9, M0, Q', QX, mc, ms⟩ := Z
  obtain ⟨hx, hb, hown, hts, hlk, hr, hG, hR, hQ, rfl, rfl, rfl, hB⟩ := C
  intro al st M cs ss h H locs ls hl hal hst hgr hrel hS
  unfold o_mm at h
  split at h
  · next y x st0 =>
    cases hc : sl8 st0 with
    | false => rw [hc] at h; exact h.elim
    | true =>
      rw [hc] at h
      have h8 := cat8 hc
      exact va_mmin hx hb hl.1.symm hown (hts _ (gtb_in w1 rfl)) (hts _ (gtb_in wq_min.1 rfl)) (hts _ (gtb_in wq_min.2.1 rfl)) (hts _ (gtb_in wq_min.2.2 rfl)) (Nat.le_trans hd1 hR.1) (by have := hR.2.1; omega) (Nat.le_trans hgr.2.1 hR.2.2.1) (Nat.le_trans hgr.2.2 hR.2.2.2) hd (k al (vI (mnI x y) :: st0) M cs ss h H locs ls hl hal (okS.cons trivial (okS.tail (okS.tail hst))) hgr hrel hS)
  · exact h.elim
theorem wq_max : Cond.static Lib.Math.max.name ∈ lw_tbl ∧ Cond.initialized "java/lang/Math" ∈ lw_tbl ∧ Cond.code Lib.Math.max.name Lib.Math.max.code 2 (some .int) ∈ lw_tbl := ⟨by decide +kernel, by decide +kernel, by decide +kernel⟩
theorem s_mmax {Z : ZT} {cc : ByteArray} {own : String} {ret : Option FieldType} {d mc9 ms9 : Nat} {G9 : GT} {Q : Option AV → Mm → Prop} (C : Zok Z cc own ret d G9 mc9 ms9 Q) {pc : Nat} {index : Nat} {φ : Fm} (hd : decode cc pc = .ok (.invokestatic index, 3)) (w1 : Cond.methodLink own index Lib.Math.max.name ∈ lw_tbl) (hd1 : 1 ≤ d) (k : Sd Z φ (pc + 3)) : Sd Z (o_mm mxI φ) pc := by
  obtain ⟨p, e, R, s, m, args, below, meth, c, G, x9, M0, Q', QX, mc, ms⟩ := Z
  obtain ⟨hx, hb, hown, hts, hlk, hr, hG, hR, hQ, rfl, rfl, rfl, hB⟩ := C
  intro al st M cs ss h H locs ls hl hal hst hgr hrel hS
  unfold o_mm at h
  split at h
  · next y x st0 =>
    cases hc : sl8 st0 with
    | false => rw [hc] at h; exact h.elim
    | true =>
      rw [hc] at h
      have h8 := cat8 hc
      exact va_mmax hx hb hl.1.symm hown (hts _ (gtb_in w1 rfl)) (hts _ (gtb_in wq_max.1 rfl)) (hts _ (gtb_in wq_max.2.1 rfl)) (hts _ (gtb_in wq_max.2.2 rfl)) (Nat.le_trans hd1 hR.1) (by have := hR.2.1; omega) (Nat.le_trans hgr.2.1 hR.2.2.1) (Nat.le_trans hgr.2.2 hR.2.2.2) hd (k al (vI (mxI x y) :: st0) M cs ss h H locs ls hl hal (okS.cons trivial (okS.tail (okS.tail hst))) hgr hrel hS)
  · exact h.elim
