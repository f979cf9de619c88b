/-! # core, 5: rows on memory (printed by wip/gen/mk_mem.py) -/
theorem okV.ref {G : GT} {M : Mm} {a k n : Nat} (h : okV G M (vR a k n)) (h1 : k ≠ 30) (h2 : k ≠ 31) (h3 : k ≠ 32) : kd M a = (k, n) ∧ k ≠ 0 := by
  unfold okV at h
  dsimp only at h
  rw [if_neg h1, if_neg h2, if_neg h3] at h
  exact h
theorem okV.mk {G : GT} {M : Mm} {a k n : Nat} (h : kd M a = (k, n)) (h0 : k ≠ 0) (h1 : k ≠ 30) (h2 : k ≠ 31) (h3 : k ≠ 32) : okV G M (vR a k n) := by
  unfold okV
  dsimp only
  rw [if_neg h1, if_neg h2, if_neg h3]
  exact ⟨h, h0⟩
theorem okS.kept {G : GT} {M M' : Mm} {st : List AV} (hk : kd M' = kd M) (h : okS G M st) : okS G M' st := fun v hv => okV.kept hk (h v hv)
theorem okL.kept {G : GT} {M M' : Mm} {al : LA} (hk : kd M' = kd M) (h : okL G M al) : okL G M' al := fun v hv => okV.kept hk (h v hv)
/-- kinds of references that lie in memory -/
def memK (k : Nat) : Bool := !(Nat.beq k 0) && !(Nat.beq k 30) && !(Nat.beq k 31) && !(Nat.beq k 32)
theorem memK_ne {k : Nat} (h : memK k = true) : k ≠ 0 ∧ k ≠ 30 ∧ k ≠ 31 ∧ k ≠ 32 := by
  unfold memK at h
  simp only [Bool.and_eq_true, Bool.not_eq_true'] at h
  exact ⟨Nat.ne_of_beq_eq_false h.1.1.1, Nat.ne_of_beq_eq_false h.1.1.2, Nat.ne_of_beq_eq_false h.1.2, Nat.ne_of_beq_eq_false h.2⟩
def o_getI (k j : Nat) (φ : Fm) : Fm := fun al st M cs ss => match st with
  | Sum.inr (Sum.inr (some (a, k9, _))) :: st => cond (Nat.beq k9 k) (φ al (vI (gI M a j) :: st) M cs ss) False
  | _ => False
def o_getF (k off k2 n2 : Nat) (φ : Fm) : Fm := fun al st M cs ss => match st with
  | Sum.inr (Sum.inr (some (a, k9, _))) :: st => cond (Nat.beq k9 k) (φ al (vR (a + off) k2 n2 :: st) M cs ss) False
  | _ => False
def o_getR (k j k2 n2 : Nat) (φ : Fm) : Fm := fun al st M cs ss => match st with
  | Sum.inr (Sum.inr (some (a, k9, _))) :: st => cond (Nat.beq k9 k) ((∀ b : Nat, gR M a j = some b → φ al (vR b k2 n2 :: st) M cs ss) ∧ (gR M a j = none → φ al (vN :: st) M cs ss)) False
  | _ => False
theorem s_getI {Z : ZT} {cc : ByteArray} {own : String} {ret : Option FieldType} {d mc9 ms9 : Nat} {G9 : GT} {Q : Option AV → Mm → Prop} (C : Zok Z cc own ret d G9 mc9 ms9 Q) {pc : Nat} {k j N index : Nat} {C0 : String} {T : u_T} {φ : Fm} (hd : decode cc pc = .ok (.getfield index, 3)) (F : FldOk k j C0 T N (0, 0, 0, 0)) (L : LnkOk own index T j) (kn : Sd Z φ (pc + 3)) : Sd Z (o_getI k j φ) pc := by
  obtain ⟨p, e, R, s, m, args, below, meth, c, G, x9, M0, Q', QX, mc, ms⟩ := Z
  obtain ⟨hx, hb, hown, hts, hlk, hr, hG, hR, hQ, rfl, rfl, rfl, hB⟩ := C
  intro al st M cs ss h H locs ls hl hal hst hgr hrel hS
  unfold o_getI at h
  split at h
  · next a k9 n9 st0 =>
    cases hk9 : Nat.beq k9 k with
    | false => rw [hk9] at h; exact h.elim
    | true =>
      rw [hk9] at h
      have hkk := Nat.eq_of_beq_eq_true hk9
      subst hkk
      have hq := objK_lt F.1
      have hkd := (okS.head hst).ref hq.2.2.2.2.2.2.1 hq.2.2.2.2.2.2.2.1 hq.2.2.2.2.2.2.2.2
      exact W_get hx hb hown hts hG F L hrel hkd.1 hd (kn al (vI (gI M a j) :: st0) M cs ss h H locs ls hl hal (okS.cons trivial (okS.tail hst)) hgr hrel hS)
  · exact h.elim
theorem s_getF {Z : ZT} {cc : ByteArray} {own : String} {ret : Option FieldType} {d mc9 ms9 : Nat} {G9 : GT} {Q : Option AV → Mm → Prop} (C : Zok Z cc own ret d G9 mc9 ms9 Q) {pc : Nat} {k j N index off k2 n2 : Nat} {C0 : String} {T : u_T} {φ : Fm} (hd : decode cc pc = .ok (.getfield index, 3)) (F : FldOk k j C0 T N (1, off, k2, n2)) (L : LnkOk own index T j) (hm : memK k2 = true) (kn : Sd Z φ (pc + 3)) : Sd Z (o_getF k off k2 n2 φ) pc := by
  obtain ⟨p, e, R, s, m, args, below, meth, c, G, x9, M0, Q', QX, mc, ms⟩ := Z
  obtain ⟨hx, hb, hown, hts, hlk, hr, hG, hR, hQ, rfl, rfl, rfl, hB⟩ := C
  intro al st M cs ss h H locs ls hl hal hst hgr hrel hS
  unfold o_getF at h
  split at h
  · next a k9 n9 st0 =>
    cases hk9 : Nat.beq k9 k with
    | false => rw [hk9] at h; exact h.elim
    | true =>
      rw [hk9] at h
      have hkk := Nat.eq_of_beq_eq_true hk9
      subst hkk
      have hq := objK_lt F.1
      have hkd := (okS.head hst).ref hq.2.2.2.2.2.2.1 hq.2.2.2.2.2.2.2.1 hq.2.2.2.2.2.2.2.2
      have hm2 := memK_ne hm
      have h9 := ((hrel.2.2.2.2 a).1 j (1, off, k2, n2) (by rw [hkd.1]; exact hq.2.2.2.2.2.1) (by rw [hkd.1]; exact F.2.2.2.2.1)).1 rfl
      exact W_get hx hb hown hts hG F L hrel hkd.1 hd (kn al (vR (a + off) k2 n2 :: st0) M cs ss h H locs ls hl hal (okS.cons (okV.mk h9 hm2.1 hm2.2.1 hm2.2.2.1 hm2.2.2.2) (okS.tail hst)) hgr hrel hS)
  · exact h.elim
theorem s_getR {Z : ZT} {cc : ByteArray} {own : String} {ret : Option FieldType} {d mc9 ms9 : Nat} {G9 : GT} {Q : Option AV → Mm → Prop} (C : Zok Z cc own ret d G9 mc9 ms9 Q) {pc : Nat} {k j N index k2 n2 : Nat} {C0 : String} {T : u_T} {φ : Fm} (hd : decode cc pc = .ok (.getfield index, 3)) (F : FldOk k j C0 T N (2, 0, k2, n2)) (L : LnkOk own index T j) (hm : memK k2 = true) (kn : Sd Z φ (pc + 3)) : Sd Z (o_getR k j k2 n2 φ) pc := by
  obtain ⟨p, e, R, s, m, args, below, meth, c, G, x9, M0, Q', QX, mc, ms⟩ := Z
  obtain ⟨hx, hb, hown, hts, hlk, hr, hG, hR, hQ, rfl, rfl, rfl, hB⟩ := C
  intro al st M cs ss h H locs ls hl hal hst hgr hrel hS
  unfold o_getR at h
  split at h
  · next a k9 n9 st0 =>
    cases hk9 : Nat.beq k9 k with
    | false => rw [hk9] at h; exact h.elim
    | true =>
      rw [hk9] at h
      have hkk := Nat.eq_of_beq_eq_true hk9
      subst hkk
      have hq := objK_lt F.1
      have hkd := (okS.head hst).ref hq.2.2.2.2.2.2.1 hq.2.2.2.2.2.2.2.1 hq.2.2.2.2.2.2.2.2
      have hm2 := memK_ne hm
      have h9 := ((hrel.2.2.2.2 a).1 j (2, 0, k2, n2) (by rw [hkd.1]; exact hq.2.2.2.2.2.1) (by rw [hkd.1]; exact F.2.2.2.2.1)).2 rfl
      refine W_get hx hb hown hts hG F L hrel hkd.1 hd ?_
      have e9 : fv M a j (2, 0, k2, n2) = va_rf (gR M a j) := rfl
      rw [e9]
      cases hgr9 : gR M a j with
      | none => exact kn al (vN :: st0) M cs ss (h.2 hgr9) H locs ls hl hal (okS.cons trivial (okS.tail hst)) hgr hrel hS
      | some b => exact kn al (vR b k2 n2 :: st0) M cs ss (h.1 b hgr9) H locs ls hl hal (okS.cons (okV.mk (h9 b hgr9) hm2.1 hm2.2.1 hm2.2.2.1 hm2.2.2.2) (okS.tail hst)) hgr hrel hS
  · exact h.elim
def o_putI (k j : Nat) (φ : Fm) : Fm := fun al st M cs ss => match st with
  | Sum.inl v :: Sum.inr (Sum.inr (some (a, k9, _))) :: st => cond (Nat.beq k9 k) (φ al st (sI M a j v) cs ss) False
  | _ => False
/-- whether the method is a constructor -/
def Zin (Z : ZT) : Bool := match Z with
  | (_, _, _, _, _, _, _, meth, _) => decide (meth.name = "<init>")
theorem s_putI {Z : ZT} {cc : ByteArray} {own : String} {ret : Option FieldType} {d mc9 ms9 : Nat} {G9 : GT} {Q : Option AV → Mm → Prop} (C : Zok Z cc own ret d G9 mc9 ms9 Q) {pc : Nat} {k j N index : Nat} {C0 : String} {T : u_T} {φ : Fm} (hd : decode cc pc = .ok (.putfield index, 3)) (F : FldOk k j C0 T N (0, 0, 0, 0)) (L : LnkOk own index T j) (hfi : (T j).2.2.2 = false ∨ (Zin Z = true ∧ (T j).1 = own ∧ Cond.fieldLink own index (T j).1 (T j).2.1 (T j).2.2.1 ∈ lw_tbl)) (kn : Sd Z φ (pc + 3)) : Sd Z (o_putI k j φ) pc := by
  obtain ⟨p, e, R, s, m, args, below, meth, c, G, x9, M0, Q', QX, mc, ms⟩ := Z
  obtain ⟨hx, hb, hown, hts, hlk, hr, hG, hR, hQ, rfl, rfl, rfl, hB⟩ := C
  intro al st M cs ss h H locs ls hl hal hst hgr hrel hS
  unfold o_putI at h
  split at h
  · next v a k9 n9 st0 =>
    cases hk9 : Nat.beq k9 k with
    | false => rw [hk9] at h; exact h.elim
    | true =>
      rw [hk9] at h
      have hkk := Nat.eq_of_beq_eq_true hk9
      subst hkk
      have hq := objK_lt F.1
      have hkd := (okS.head (okS.tail hst)).ref hq.2.2.2.2.2.2.1 hq.2.2.2.2.2.2.2.1 hq.2.2.2.2.2.2.2.2
      have hk0 : (kd M a).1 ≠ 0 := by rw [hkd.1]; exact hkd.2
      have hfi : (T j).2.2.2 = false ∨ (meth.name = "<init>" ∧ (T j).1 = own ∧ Cond.fieldLink own index (T j).1 (T j).2.1 (T j).2.2.1 ∈ lw_tbl) := hfi.imp id (fun z => ⟨of_decide_eq_true z.1, z.2⟩)
      exact W_put hx hb hown hts hG F L hfi hrel hkd.1 (Or.inl ⟨rfl, v, rfl⟩) hS hd fun H1 locs1 z1 z2 z3 z4 => kn al st0 (sI M a j v) cs ss h H1 locs1 ls hl (okL.kept (kd_sI M a j v) hal) (okS.kept (kd_sI M a j v) (okS.tail (okS.tail hst))) (hgr.kept (nx_sI M a j v) (kd_sI M a j v)) (hrel.upd hk0 (nx_sI M a j v) (kd_sI M a j v) (fun b hb9 => ce_sI_ne G M a j v hb9) (at_sI F rfl hkd.1 z3) z1 z2 hrel.2.2.2.2) z4
  · exact h.elim
def o_putR (k j k2 n2 : Nat) (φ : Fm) : Fm := fun al st M cs ss => match st with
  | Sum.inr (Sum.inr v) :: Sum.inr (Sum.inr (some (a, k9, _))) :: st => cond (Nat.beq k9 k) (match v with
    | none => φ al st (sR M a j none) cs ss
    | some (b, k8, n8) => cond (Nat.beq k8 k2 && Nat.beq n8 n2) (φ al st (sR M a j (some b)) cs ss) False) False
  | _ => False
theorem s_putR {Z : ZT} {cc : ByteArray} {own : String} {ret : Option FieldType} {d mc9 ms9 : Nat} {G9 : GT} {Q : Option AV → Mm → Prop} (C : Zok Z cc own ret d G9 mc9 ms9 Q) {pc : Nat} {k j N index k2 n2 : Nat} {C0 : String} {T : u_T} {φ : Fm} (hd : decode cc pc = .ok (.putfield index, 3)) (F : FldOk k j C0 T N (2, 0, k2, n2)) (L : LnkOk own index T j) (hm : memK k2 = true) (hfi : (T j).2.2.2 = false ∨ (Zin Z = true ∧ (T j).1 = own ∧ Cond.fieldLink own index (T j).1 (T j).2.1 (T j).2.2.1 ∈ lw_tbl)) (kn : Sd Z φ (pc + 3)) : Sd Z (o_putR k j k2 n2 φ) pc := by
  obtain ⟨p, e, R, s, m, args, below, meth, c, G, x9, M0, Q', QX, mc, ms⟩ := Z
  obtain ⟨hx, hb, hown, hts, hlk, hr, hG, hR, hQ, rfl, rfl, rfl, hB⟩ := C
  intro al st M cs ss h H locs ls hl hal hst hgr hrel hS
  unfold o_putR at h
  split at h
  · next v a k9 n9 st0 =>
    cases hk9 : Nat.beq k9 k with
    | false => rw [hk9] at h; exact h.elim
    | true =>
      rw [hk9] at h
      have hkk := Nat.eq_of_beq_eq_true hk9
      subst hkk
      have hq := objK_lt F.1
      have hkd := (okS.head (okS.tail hst)).ref hq.2.2.2.2.2.2.1 hq.2.2.2.2.2.2.2.1 hq.2.2.2.2.2.2.2.2
      have hk0 : (kd M a).1 ≠ 0 := by rw [hkd.1]; exact hkd.2
      have hfi : (T j).2.2.2 = false ∨ (meth.name = "<init>" ∧ (T j).1 = own ∧ Cond.fieldLink own index (T j).1 (T j).2.1 (T j).2.2.1 ∈ lw_tbl) := hfi.imp id (fun z => ⟨of_decide_eq_true z.1, z.2⟩)
      have hm2 := memK_ne hm
      have hft : ∀ t, (ftb (kd M a).1)[j]? = some t → t = (2, 0, k2, n2) := fun t ht => by rw [hkd.1, F.2.2.2.2.1] at ht; exact (Option.some.inj ht).symm
      have ne16 : (kd M a).1 ≠ 16 := by rw [hkd.1]; exact hq.2.2.2.1
      have ne17 : (kd M a).1 ≠ 17 := by rw [hkd.1]; exact hq.2.2.2.2.1
      have fin : ∀ w : Option Nat, (∀ b, w = some b → kd M b = (k2, n2)) → φ al st0 (sR M a j w) cs ss → W p (gl G) e R s m args below meth c H locs cs ss _ (F0 m pc ls (va_rf w :: .ref a :: st0.map cv)) := fun w hw h =>
        W_put hx hb hown hts hG F L hfi hrel hkd.1 (Or.inr ⟨(by intro z; cases z), by cases w with | none => exact Or.inl rfl | some b => exact Or.inr ⟨b, rfl⟩⟩) hS hd fun H1 locs1 z1 z2 z3 z4 => kn al st0 (sR M a j w) cs ss h H1 locs1 ls hl (okL.kept (kd_sR M a j w) hal) (okS.kept (kd_sR M a j w) (okS.tail (okS.tail hst))) (hgr.kept (nx_sR M a j w) (kd_sR M a j w)) (hrel.upd hk0 (nx_sR M a j w) (kd_sR M a j w) (fun b hb9 => ce_sR_ne G M a j w hb9) (at_sR F rfl hkd.1 z3) z1 z2 (tyO_sR hrel.2.2.2.2 (fun t _ ht _ b hb9 => by rw [hft t ht]; exact hw b hb9) (fun z => absurd z ne16) (fun z => absurd z ne17))) z4
      rcases v with _ | ⟨b, k8, n8⟩
      · exact fin none (fun b z => nomatch z) h
      · dsimp only at h
        cases hk8 : (Nat.beq k8 k2 && Nat.beq n8 n2) with
        | false => rw [hk8] at h; exact h.elim
        | true =>
          rw [hk8] at h
          have e1 := Nat.eq_of_beq_eq_true (Bool.and_eq_true_iff.mp hk8).1
          have e2 := Nat.eq_of_beq_eq_true (Bool.and_eq_true_iff.mp hk8).2
          subst e1; subst e2
          have h9 := (okS.head hst).ref hm2.2.1 hm2.2.2.1 hm2.2.2.2
          exact fin (some b) (fun b' z => by cases z; exact h9.1) h
  · exact h.elim
def o_iald (φ : Fm) : Fm := fun al st M cs ss => match st with
  | Sum.inl i :: Sum.inr (Sum.inr (some (a, k9, n))) :: st => cond (Nat.beq k9 14) (vp_in i n ∧ φ al (vI (gI M a i.toNatClampNeg) :: st) M cs ss) False
  | _ => False
theorem ce_14 {G : GT} {M : Mm} {a n : Nat} (ha : kd M a = (14, n)) : ce G M a = .inl (gA G 14, (n, (.inl (gI M a)))) := by unfold ce; rw [ha]; rfl
theorem s_iald {Z : ZT} {cc : ByteArray} {own : String} {ret : Option FieldType} {d mc9 ms9 : Nat} {G9 : GT} {Q : Option AV → Mm → Prop} (C : Zok Z cc own ret d G9 mc9 ms9 Q) {pc : Nat} {φ : Fm} (hd : decode cc pc = .ok (.iaload, 1)) (k : Sd Z φ (pc + 1)) : Sd Z (o_iald φ) pc := by
  obtain ⟨p, e, R, s, m, args, below, meth, c, G, x9, M0, Q', QX, mc, ms⟩ := Z
  obtain ⟨hx, hb, hown, hts, hlk, hr, hG, hR, hQ, rfl, rfl, rfl, hB⟩ := C
  intro al st M cs ss h H locs ls hl hal hst hgr hrel hS
  unfold o_iald at h
  split at h
  · next i a k9 n st0 =>
    cases hk9 : Nat.beq k9 14 with
    | false => rw [hk9] at h; exact h.elim
    | true =>
      rw [hk9] at h
      have hkk := Nat.eq_of_beq_eq_true hk9
      subst hkk
      have hkd := (okS.head (okS.tail hst)).ref (by decide) (by decide) (by decide)
      have hat := hrel.at (a := a) (by rw [hkd.1]; exact hkd.2)
      rw [ce_14 hkd.1] at hat
      exact va_iald hx hb hG.1 (va_P1 hat) 0 0 rfl rfl h.1 hd (k al (vI (gI M a i.toNatClampNeg) :: st0) M cs ss h.2 H locs ls hl hal (okS.cons trivial (okS.tail (okS.tail hst))) hgr hrel hS)
  · exact h.elim
def o_lald (φ : Fm) : Fm := fun al st M cs ss => match st with
  | Sum.inl i :: Sum.inr (Sum.inr (some (a, k9, n))) :: st => cond (Nat.beq k9 15) (vp_in i n ∧ φ al (vL (gL M a i.toNatClampNeg) :: st) M cs ss) False
  | _ => False
theorem ce_15 {G : GT} {M : Mm} {a n : Nat} (ha : kd M a = (15, n)) : ce G M a = .inl (gA G 15, (n, (.inr (.inl (gL M a))))) := by unfold ce; rw [ha]; rfl
theorem s_lald {Z : ZT} {cc : ByteArray} {own : String} {ret : Option FieldType} {d mc9 ms9 : Nat} {G9 : GT} {Q : Option AV → Mm → Prop} (C : Zok Z cc own ret d G9 mc9 ms9 Q) {pc : Nat} {φ : Fm} (hd : decode cc pc = .ok (.laload, 1)) (k : Sd Z φ (pc + 1)) : Sd Z (o_lald φ) pc := by
  obtain ⟨p, e, R, s, m, args, below, meth, c, G, x9, M0, Q', QX, mc, ms⟩ := Z
  obtain ⟨hx, hb, hown, hts, hlk, hr, hG, hR, hQ, rfl, rfl, rfl, hB⟩ := C
  intro al st M cs ss h H locs ls hl hal hst hgr hrel hS
  unfold o_lald at h
  split at h
  · next i a k9 n st0 =>
    cases hk9 : Nat.beq k9 15 with
    | false => rw [hk9] at h; exact h.elim
    | true =>
      rw [hk9] at h
      have hkk := Nat.eq_of_beq_eq_true hk9
      subst hkk
      have hkd := (okS.head (okS.tail hst)).ref (by decide) (by decide) (by decide)
      have hat := hrel.at (a := a) (by rw [hkd.1]; exact hkd.2)
      rw [ce_15 hkd.1] at hat
      exact va_lald hx hb hG.1 (va_P1 hat) 0 1 rfl rfl h.1 hd (k al (vL (gL M a i.toNatClampNeg) :: st0) M cs ss h.2 H locs ls hl hal (okS.cons trivial (okS.tail (okS.tail hst))) hgr hrel hS)
  · exact h.elim
def o_iast (φ : Fm) : Fm := fun al st M cs ss => match st with
  | Sum.inl v :: Sum.inl i :: Sum.inr (Sum.inr (some (a, k9, n))) :: st => cond (Nat.beq k9 14) (vp_in i n ∧ φ al st (sI M a i.toNatClampNeg v) cs ss) False
  | _ => False
theorem s_iast {Z : ZT} {cc : ByteArray} {own : String} {ret : Option FieldType} {d mc9 ms9 : Nat} {G9 : GT} {Q : Option AV → Mm → Prop} (C : Zok Z cc own ret d G9 mc9 ms9 Q) {pc : Nat} {φ : Fm} (hd : decode cc pc = .ok (.iastore, 1)) (k : Sd Z φ (pc + 1)) : Sd Z (o_iast φ) pc := by
  obtain ⟨p, e, R, s, m, args, below, meth, c, G, x9, M0, Q', QX, mc, ms⟩ := Z
  obtain ⟨hx, hb, hown, hts, hlk, hr, hG, hR, hQ, rfl, rfl, rfl, hB⟩ := C
  intro al st M cs ss h H locs ls hl hal hst hgr hrel hS
  unfold o_iast at h
  split at h
  · next v i a k9 n st0 =>
    cases hk9 : Nat.beq k9 14 with
    | false => rw [hk9] at h; exact h.elim
    | true =>
      rw [hk9] at h
      have hkk := Nat.eq_of_beq_eq_true hk9
      subst hkk
      have hkd := (okS.head (okS.tail (okS.tail hst))).ref (by decide) (by decide) (by decide)
      have hk0 : (kd M a).1 ≠ 0 := by rw [hkd.1]; exact hkd.2
      have hat := hrel.at hk0
      rw [ce_14 hkd.1] at hat
      have hat2 : H[a]? = some (arrV (gA G 14) n (fun j => .int (gI M a j))) := hat
      refine W.iast hx hb hat2 ((hG.1.2 0 _ rfl).1 n _) (fun q => by cases q) (by show ¬ (i < 0 ∨ (arrV _ _ _).slots.size ≤ _); rw [arrV_size]; exact h.1) rfl rfl hd fun H1 z0 z1 z2 => ?_
      refine k al st0 (sI M a i.toNatClampNeg v) cs ss h.2 H1 _ ls hl (okL.kept rfl hal) (okS.kept rfl (okS.tail (okS.tail (okS.tail hst)))) (hgr.kept rfl rfl) (hrel.upd hk0 rfl rfl (fun b hb9 => ce_sI_ne G M a _ v hb9) ?_ z1 z2 hrel.2.2.2.2) (hS.put z1 z2 (hrel.ab hk0))
      rw [ce_14 (M := sI M a i.toNatClampNeg v) hkd.1]
      show H1[a]? = some (arrV (gA G 14) n (fun j => .int (gI (sI M a i.toNatClampNeg v) a j)))
      rw [z0, arrV_store]
      refine congrArg (fun f => some (arrV (gA G 14) n f)) (funext fun q => ?_)
      unfold updV
      rw [gI_sI]
      by_cases hqq : q = i.toNatClampNeg
      · rw [if_pos hqq, if_pos ⟨rfl, hqq⟩]
      · rw [if_neg hqq, if_neg (fun z => hqq z.2)]
  · exact h.elim
def o_last (φ : Fm) : Fm := fun al st M cs ss => match st with
  | Sum.inr (Sum.inl v) :: Sum.inl i :: Sum.inr (Sum.inr (some (a, k9, n))) :: st => cond (Nat.beq k9 15) (vp_in i n ∧ φ al st (sL M a i.toNatClampNeg v) cs ss) False
  | _ => False
theorem s_last {Z : ZT} {cc : ByteArray} {own : String} {ret : Option FieldType} {d mc9 ms9 : Nat} {G9 : GT} {Q : Option AV → Mm → Prop} (C : Zok Z cc own ret d G9 mc9 ms9 Q) {pc : Nat} {φ : Fm} (hd : decode cc pc = .ok (.lastore, 1)) (k : Sd Z φ (pc + 1)) : Sd Z (o_last φ) pc := by
  obtain ⟨p, e, R, s, m, args, below, meth, c, G, x9, M0, Q', QX, mc, ms⟩ := Z
  obtain ⟨hx, hb, hown, hts, hlk, hr, hG, hR, hQ, rfl, rfl, rfl, hB⟩ := C
  intro al st M cs ss h H locs ls hl hal hst hgr hrel hS
  unfold o_last at h
  split at h
  · next v i a k9 n st0 =>
    cases hk9 : Nat.beq k9 15 with
    | false => rw [hk9] at h; exact h.elim
    | true =>
      rw [hk9] at h
      have hkk := Nat.eq_of_beq_eq_true hk9
      subst hkk
      have hkd := (okS.head (okS.tail (okS.tail hst))).ref (by decide) (by decide) (by decide)
      have hk0 : (kd M a).1 ≠ 0 := by rw [hkd.1]; exact hkd.2
      have hat := hrel.at hk0
      rw [ce_15 hkd.1] at hat
      have hat2 : H[a]? = some (arrV (gA G 15) n (fun j => .long (gL M a j))) := hat
      refine W.last hx hb hat2 ((hG.1.2 1 _ rfl).1 n _) (fun q => by cases q) (by show ¬ (i < 0 ∨ (arrV _ _ _).slots.size ≤ _); rw [arrV_size]; exact h.1) rfl rfl hd fun H1 z0 z1 z2 => ?_
      refine k al st0 (sL M a i.toNatClampNeg v) cs ss h.2 H1 _ ls hl (okL.kept rfl hal) (okS.kept rfl (okS.tail (okS.tail (okS.tail hst)))) (hgr.kept rfl rfl) (hrel.upd hk0 rfl rfl (fun b hb9 => ce_sL_ne G M a _ v hb9) ?_ z1 z2 hrel.2.2.2.2) (hS.put z1 z2 (hrel.ab hk0))
      rw [ce_15 (M := sL M a i.toNatClampNeg v) hkd.1]
      show H1[a]? = some (arrV (gA G 15) n (fun j => .long (gL (sL M a i.toNatClampNeg v) a j)))
      rw [z0, arrV_store]
      refine congrArg (fun f => some (arrV (gA G 15) n f)) (funext fun q => ?_)
      unfold updV
      rw [gL_sL]
      by_cases hqq : q = i.toNatClampNeg
      · rw [if_pos hqq, if_pos ⟨rfl, hqq⟩]
      · rw [if_neg hqq, if_neg (fun z => hqq z.2)]
  · exact h.elim
def o_aald (φ : Fm) : Fm := fun al st M cs ss => match st with
  | Sum.inl i :: Sum.inr (Sum.inr (some (a, k9, n))) :: st => vp_in i n ∧ cond (Nat.ble 1000 k9) (φ al (vR (a + 1 + i.toNatClampNeg) 14 (k9 - 1000) :: st) M cs ss) (cond (Nat.beq k9 16) ((∀ b : Nat, gR M a i.toNatClampNeg = some b → φ al (vR b 4 0 :: st) M cs ss) ∧ (gR M a i.toNatClampNeg = none → φ al (vN :: st) M cs ss)) (cond (Nat.beq k9 17) ((∀ b : Nat, gR M a i.toNatClampNeg = some b → φ al (vR b 11 0 :: st) M cs ss) ∧ (gR M a i.toNatClampNeg = none → φ al (vN :: st) M cs ss)) False))
  | _ => False
theorem ce_16 {G : GT} {M : Mm} {a n : Nat} (ha : kd M a = (16, n)) : ce G M a = .inl (gA G 16, (n, .inr (.inr (.inr (.inr (gR M a)))))) := by unfold ce; rw [ha]; rfl
theorem ce_17 {G : GT} {M : Mm} {a n : Nat} (ha : kd M a = (17, n)) : ce G M a = .inl (gA G 17, (n, .inr (.inr (.inr (.inr (gR M a)))))) := by unfold ce; rw [ha]; rfl
theorem ce_gr {G : GT} {M : Mm} {a n k : Nat} (hk : 1000 ≤ k) (ha : kd M a = (k, n)) : ce G M a = .inl (gA G 18, (n, .inr (.inr (.inr (.inr (fun j => some (a + 1 + j))))))) := by
  unfold ce; rw [ha]
  simp only [show k ≠ 14 by omega, show k ≠ 15 by omega, show k ≠ 16 by omega, show k ≠ 17 by omega, if_false, or_self, if_pos hk]
theorem vp_in_lt {i : Int32} {n : Nat} (h : vp_in i n) : i.toNatClampNeg < n := Nat.not_le.mp fun q => h (Or.inr q)
theorem s_aald {Z : ZT} {cc : ByteArray} {own : String} {ret : Option FieldType} {d mc9 ms9 : Nat} {G9 : GT} {Q : Option AV → Mm → Prop} (C : Zok Z cc own ret d G9 mc9 ms9 Q) {pc : Nat} {φ : Fm} (hd : decode cc pc = .ok (.aaload, 1)) (k : Sd Z φ (pc + 1)) : Sd Z (o_aald φ) pc := by
  obtain ⟨p, e, R, s, m, args, below, meth, c, G, x9, M0, Q', QX, mc, ms⟩ := Z
  obtain ⟨hx, hb, hown, hts, hlk, hr, hG, hR, hQ, rfl, rfl, rfl, hB⟩ := C
  intro al st M cs ss h H locs ls hl hal hst hgr hrel hS
  unfold o_aald at h
  split at h
  · next i a k9 n st0 =>
    have hlt := vp_in_lt h.1
    cases hg : Nat.ble 1000 k9 with
    | true =>
      rw [hg] at h
      have hge := Nat.le_of_ble_eq_true hg
      have hkd := (okS.head (okS.tail hst)).ref (by omega) (by omega) (by omega)
      have hk0 : (kd M a).1 ≠ 0 := by rw [hkd.1]; exact hkd.2
      have hat := hrel.at hk0
      rw [ce_gr hge hkd.1] at hat
      have h9 : kd M (a + 1 + i.toNatClampNeg) = (14, k9 - 1000) := by
        have q := (hrel.2.2.2.2 a).2.1 (by rw [hkd.1]; exact hge) i.toNatClampNeg (by rw [hkd.1]; exact hlt)
        rw [hkd.1] at q; exact q
      have hat2 : H[a]? = some (arrV (gA G 18) n (fun j => va_rf (some (a + 1 + j)))) := hat
      exact W.aald (v := .ref (a + 1 + i.toNatClampNeg)) (ty := .array .int) hx hb hat2 ((hG.1.2 4 _ rfl).1 n _) rfl (fun q => by cases q) (by show ¬ (i < 0 ∨ (arrV _ _ _).slots.size ≤ _); rw [arrV_size]; exact h.1) (by show (arrV _ _ _).slots[_]? = _; rw [arrV_read _ _ hlt]; rfl) rfl rfl hd (k al (vR (a + 1 + i.toNatClampNeg) 14 (k9 - 1000) :: st0) M cs ss h.2 H locs ls hl hal (okS.cons (okV.mk h9 (by decide) (by decide) (by decide) (by decide)) (okS.tail (okS.tail hst))) hgr hrel hS)
    | false =>
      rw [hg] at h
      cases hk9 : Nat.beq k9 16 with
      | true =>
        rw [hk9] at h
        have hkk := Nat.eq_of_beq_eq_true hk9
        subst hkk
        have hkd := (okS.head (okS.tail hst)).ref (by decide) (by decide) (by decide)
        have hk0 : (kd M a).1 ≠ 0 := by rw [hkd.1]; exact hkd.2
        have hat := hrel.at hk0
        rw [ce_16 hkd.1] at hat
        have h9 : ∀ b, gR M a i.toNatClampNeg = some b → kd M b = (4, 0) := fun b hb9 => (hrel.2.2.2.2 a).2.2.1 (by rw [hkd.1]) i.toNatClampNeg b (by rw [hkd.1]; exact hlt) hb9
        refine va_aldq hx hb hG.1 (va_P1 hat) 0 2 rfl rfl h.1 hd ?_
        cases hg9 : gR M a i.toNatClampNeg with
        | none => exact k al (vN :: st0) M cs ss (h.2.2 hg9) H locs ls hl hal (okS.cons trivial (okS.tail (okS.tail hst))) hgr hrel hS
        | some b => exact k al (vR b 4 0 :: st0) M cs ss (h.2.1 b hg9) H locs ls hl hal (okS.cons (okV.mk (h9 b hg9) (by decide) (by decide) (by decide) (by decide)) (okS.tail (okS.tail hst))) hgr hrel hS
      | false =>
        rw [hk9] at h
        clear hk9
        cases hk9 : Nat.beq k9 17 with
        | false => rw [hk9] at h; exact h.2.elim
        | true =>
          rw [hk9] at h
          have hkk := Nat.eq_of_beq_eq_true hk9
          subst hkk
          have hkd := (okS.head (okS.tail hst)).ref (by decide) (by decide) (by decide)
          have hk0 : (kd M a).1 ≠ 0 := by rw [hkd.1]; exact hkd.2
          have hat := hrel.at hk0
          rw [ce_17 hkd.1] at hat
          have h9 : ∀ b, gR M a i.toNatClampNeg = some b → kd M b = (11, 0) := fun b hb9 => (hrel.2.2.2.2 a).2.2.2 (by rw [hkd.1]) i.toNatClampNeg b (by rw [hkd.1]; exact hlt) hb9
          refine va_aldq hx hb hG.1 (va_P1 hat) 0 3 rfl rfl h.1 hd ?_
          cases hg9 : gR M a i.toNatClampNeg with
          | none => exact k al (vN :: st0) M cs ss (h.2.2 hg9) H locs ls hl hal (okS.cons trivial (okS.tail (okS.tail hst))) hgr hrel hS
          | some b => exact k al (vR b 11 0 :: st0) M cs ss (h.2.1 b hg9) H locs ls hl hal (okS.cons (okV.mk (h9 b hg9) (by decide) (by decide) (by decide) (by decide)) (okS.tail (okS.tail hst))) hgr hrel hS
  · exact h.elim
def o_alen (φ : Fm) : Fm := fun al st M cs ss => match st with
  | Sum.inr (Sum.inr (some (a, k9, n))) :: st => cond (Nat.beq k9 14 || Nat.beq k9 15 || Nat.ble 1000 k9) (φ al (vI (Int32.ofNat n) :: st) M cs ss) False
  | _ => False
theorem s_alen {Z : ZT} {cc : ByteArray} {own : String} {ret : Option FieldType} {d mc9 ms9 : Nat} {G9 : GT} {Q : Option AV → Mm → Prop} (C : Zok Z cc own ret d G9 mc9 ms9 Q) {pc : Nat} {φ : Fm} (hd : decode cc pc = .ok (.arraylength, 1)) (k : Sd Z φ (pc + 1)) : Sd Z (o_alen φ) pc := by
  obtain ⟨p, e, R, s, m, args, below, meth, c, G, x9, M0, Q', QX, mc, ms⟩ := Z
  obtain ⟨hx, hb, hown, hts, hlk, hr, hG, hR, hQ, rfl, rfl, rfl, hB⟩ := C
  intro al st M cs ss h H locs ls hl hal hst hgr hrel hS
  unfold o_alen at h
  split at h
  · next a k9 n st0 =>
    cases hk9 : (Nat.beq k9 14 || Nat.beq k9 15 || Nat.ble 1000 k9) with
    | false => rw [hk9] at h; exact h.elim
    | true =>
      rw [hk9] at h
      have kk := k al (vI (Int32.ofNat n) :: st0) M cs ss h H locs ls hl hal (okS.cons trivial (okS.tail hst)) hgr hrel hS
      simp only [Bool.or_eq_true] at hk9
      rcases hk9 with (q | q) | q
      · have hkk := Nat.eq_of_beq_eq_true q
        subst hkk
        have hkd := (okS.head hst).ref (by decide) (by decide) (by decide)
        have hat := hrel.at (a := a) (by rw [hkd.1]; exact hkd.2)
        rw [ce_14 hkd.1] at hat
        exact va_alen hx hb hG.1 (va_P1 hat) 0 0 rfl rfl rfl hd kk
      · have hkk := Nat.eq_of_beq_eq_true q
        subst hkk
        have hkd := (okS.head hst).ref (by decide) (by decide) (by decide)
        have hat := hrel.at (a := a) (by rw [hkd.1]; exact hkd.2)
        rw [ce_15 hkd.1] at hat
        exact va_alen hx hb hG.1 (va_P1 hat) 0 1 rfl rfl rfl hd kk
      · have hge := Nat.le_of_ble_eq_true q
        have hkd := (okS.head hst).ref (by omega) (by omega) (by omega)
        have hat := hrel.at (a := a) (by rw [hkd.1]; exact hkd.2)
        rw [ce_gr hge hkd.1] at hat
        exact va_alen hx hb hG.1 (va_P1 hat) 0 4 rfl rfl rfl hd kk
  · exact h.elim
