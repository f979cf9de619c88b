/-- the number of locals -/
def Zml (Z : ZT) : Nat := match Z with
  | (_, _, _, _, _, _, _, _, c, _) => c.maxLocals
/-! # core, 3: one row an instruction: constants, locals, arithmetic, branches (printed by wip/gen/mk_ops.py) -/
def o_push (v : AV) (φ : Fm) : Fm := fun al st M cs ss => φ al (v :: st) M cs ss
theorem s_iconst {Z : ZT} {cc : ByteArray} {own : String} {ret : Option FieldType} {d mc9 ms9 : Nat} {G9 : GT} {Q : Option AV → Mm → Prop} (C : Zok Z cc own ret d G9 mc9 ms9 Q) {pc : Nat} {n : Int} {v : Int32} {φ : Fm} (hd : decode cc pc = .ok (.iconst n, 1)) (hv : Int32.ofInt n = v) (k : Sd Z φ (pc + 1)) : Sd Z (o_push (vI v) φ) pc := by
  obtain ⟨p, e, R, s, m, args, below, meth, c, G, x9, M0, Q', QX, mc, ms⟩ := Z
  obtain ⟨hx, hb, hown, hts, hlk, hr, hG, hR, hQ, rfl, rfl, rfl, hB⟩ := C
  intro al st M cs ss h H locs ls hl hal hst hgr hrel hS
  exact lv_iconst hx hb hd hv (k al (vI v :: st) M cs ss h H locs ls hl hal (okS.cons trivial hst) hgr hrel hS)
theorem s_bipush {Z : ZT} {cc : ByteArray} {own : String} {ret : Option FieldType} {d mc9 ms9 : Nat} {G9 : GT} {Q : Option AV → Mm → Prop} (C : Zok Z cc own ret d G9 mc9 ms9 Q) {pc : Nat} {n : Int} {v : Int32} {φ : Fm} (hd : decode cc pc = .ok (.bipush n, 2)) (hv : (Int8.ofInt n).toInt32 = v) (k : Sd Z φ (pc + 2)) : Sd Z (o_push (vI v) φ) pc := by
  obtain ⟨p, e, R, s, m, args, below, meth, c, G, x9, M0, Q', QX, mc, ms⟩ := Z
  obtain ⟨hx, hb, hown, hts, hlk, hr, hG, hR, hQ, rfl, rfl, rfl, hB⟩ := C
  intro al st M cs ss h H locs ls hl hal hst hgr hrel hS
  exact lv_bipush hx hb hd hv (k al (vI v :: st) M cs ss h H locs ls hl hal (okS.cons trivial hst) hgr hrel hS)
theorem s_sipush {Z : ZT} {cc : ByteArray} {own : String} {ret : Option FieldType} {d mc9 ms9 : Nat} {G9 : GT} {Q : Option AV → Mm → Prop} (C : Zok Z cc own ret d G9 mc9 ms9 Q) {pc : Nat} {n : Int} {v : Int32} {φ : Fm} (hd : decode cc pc = .ok (.sipush n, 3)) (hv : (Int16.ofInt n).toInt32 = v) (k : Sd Z φ (pc + 3)) : Sd Z (o_push (vI v) φ) pc := by
  obtain ⟨p, e, R, s, m, args, below, meth, c, G, x9, M0, Q', QX, mc, ms⟩ := Z
  obtain ⟨hx, hb, hown, hts, hlk, hr, hG, hR, hQ, rfl, rfl, rfl, hB⟩ := C
  intro al st M cs ss h H locs ls hl hal hst hgr hrel hS
  exact lv_sipush hx hb hd hv (k al (vI v :: st) M cs ss h H locs ls hl hal (okS.cons trivial hst) hgr hrel hS)
theorem s_lconst {Z : ZT} {cc : ByteArray} {own : String} {ret : Option FieldType} {d mc9 ms9 : Nat} {G9 : GT} {Q : Option AV → Mm → Prop} (C : Zok Z cc own ret d G9 mc9 ms9 Q) {pc : Nat} {n : Fin 2} {v : Int64} {φ : Fm} (hd : decode cc pc = .ok (.lconst n, 1)) (hv : Int64.ofNat (n : Nat) = v) (k : Sd Z φ (pc + 1)) : Sd Z (o_push (vL v) φ) pc := by
  obtain ⟨p, e, R, s, m, args, below, meth, c, G, x9, M0, Q', QX, mc, ms⟩ := Z
  obtain ⟨hx, hb, hown, hts, hlk, hr, hG, hR, hQ, rfl, rfl, rfl, hB⟩ := C
  intro al st M cs ss h H locs ls hl hal hst hgr hrel hS
  exact lv_lconst hx hb hd hv (k al (vL v :: st) M cs ss h H locs ls hl hal (okS.cons trivial hst) hgr hrel hS)
theorem s_null {Z : ZT} {cc : ByteArray} {own : String} {ret : Option FieldType} {d mc9 ms9 : Nat} {G9 : GT} {Q : Option AV → Mm → Prop} (C : Zok Z cc own ret d G9 mc9 ms9 Q) {pc : Nat} {φ : Fm} (hd : decode cc pc = .ok (.aconst_null, 1)) (k : Sd Z φ (pc + 1)) : Sd Z (o_push vN φ) pc := by
  obtain ⟨p, e, R, s, m, args, below, meth, c, G, x9, M0, Q', QX, mc, ms⟩ := Z
  obtain ⟨hx, hb, hown, hts, hlk, hr, hG, hR, hQ, rfl, rfl, rfl, hB⟩ := C
  intro al st M cs ss h H locs ls hl hal hst hgr hrel hS
  exact lv_null hx hb hd (k al (vN :: st) M cs ss h H locs ls hl hal (okS.cons trivial hst) hgr hrel hS)
theorem s_ldc {Z : ZT} {cc : ByteArray} {own : String} {ret : Option FieldType} {d mc9 ms9 : Nat} {G9 : GT} {Q : Option AV → Mm → Prop} (C : Zok Z cc own ret d G9 mc9 ms9 Q) {pc : Nat} {index : Nat} {v : Int32} {φ : Fm} (hd : decode cc pc = .ok (.ldc index, 2)) (hw : Cond.constant own index v ∈ lw_tbl) (k : Sd Z φ (pc + 2)) : Sd Z (o_push (vI v) φ) pc := by
  obtain ⟨p, e, R, s, m, args, below, meth, c, G, x9, M0, Q', QX, mc, ms⟩ := Z
  obtain ⟨hx, hb, hown, hts, hlk, hr, hG, hR, hQ, rfl, rfl, rfl, hB⟩ := C
  intro al st M cs ss h H locs ls hl hal hst hgr hrel hS
  exact lv_ldc hx hb hown (hts _ (List.mem_filter.mpr ⟨hw, rfl⟩)) hd (k al (vI v :: st) M cs ss h H locs ls hl hal (okS.cons trivial hst) hgr hrel hS)
theorem s_ldcw {Z : ZT} {cc : ByteArray} {own : String} {ret : Option FieldType} {d mc9 ms9 : Nat} {G9 : GT} {Q : Option AV → Mm → Prop} (C : Zok Z cc own ret d G9 mc9 ms9 Q) {pc : Nat} {index : Nat} {v : Int32} {φ : Fm} (hd : decode cc pc = .ok (.ldc_w index, 3)) (hw : Cond.constant own index v ∈ lw_tbl) (k : Sd Z φ (pc + 3)) : Sd Z (o_push (vI v) φ) pc := by
  obtain ⟨p, e, R, s, m, args, below, meth, c, G, x9, M0, Q', QX, mc, ms⟩ := Z
  obtain ⟨hx, hb, hown, hts, hlk, hr, hG, hR, hQ, rfl, rfl, rfl, hB⟩ := C
  intro al st M cs ss h H locs ls hl hal hst hgr hrel hS
  exact lv_ldcw hx hb hown (hts _ (List.mem_filter.mpr ⟨hw, rfl⟩)) hd (k al (vI v :: st) M cs ss h H locs ls hl hal (okS.cons trivial hst) hgr hrel hS)
theorem s_ldc2 {Z : ZT} {cc : ByteArray} {own : String} {ret : Option FieldType} {d mc9 ms9 : Nat} {G9 : GT} {Q : Option AV → Mm → Prop} (C : Zok Z cc own ret d G9 mc9 ms9 Q) {pc : Nat} {index : Nat} {v : Int64} {φ : Fm} (hd : decode cc pc = .ok (.ldc2_w index, 3)) (hw : Cond.constantLong own index v ∈ lw_tbl) (k : Sd Z φ (pc + 3)) : Sd Z (o_push (vL v) φ) pc := by
  obtain ⟨p, e, R, s, m, args, below, meth, c, G, x9, M0, Q', QX, mc, ms⟩ := Z
  obtain ⟨hx, hb, hown, hts, hlk, hr, hG, hR, hQ, rfl, rfl, rfl, hB⟩ := C
  intro al st M cs ss h H locs ls hl hal hst hgr hrel hS
  exact lv_ldc2 hx hb hown (hts _ (List.mem_filter.mpr ⟨hw, rfl⟩)) hd (k al (vL v :: st) M cs ss h H locs ls hl hal (okS.cons trivial hst) hgr hrel hS)
theorem s_ldcS {Z : ZT} {cc : ByteArray} {own : String} {ret : Option FieldType} {d mc9 ms9 : Nat} {G9 : GT} {Q : Option AV → Mm → Prop} (C : Zok Z cc own ret d G9 mc9 ms9 Q) {pc : Nat} {index i : Nat} {tx : String} {by0 : List Int32} {φ : Fm} (hd : decode cc pc = .ok (.ldc index, 2)) (hw : strT[i]? = some (own, index, tx, by0)) (k : Sd Z φ (pc + 2)) : Sd Z (fun al st M cs ss => ∀ a : Nat, φ al (vR a 30 i :: st) M cs ss) pc := by
  obtain ⟨p, e, R, s, m, args, below, meth, c, G, x9, M0, Q', QX, mc, ms⟩ := Z
  obtain ⟨hx, hb, hown, hts, hlk, hr, hG, hR, hQ, rfl, rfl, rfl, hB⟩ := C
  intro al st M cs ss h H locs ls hl hal hst hgr hrel hS
  have hq := (hG.2.2.1 i _ hw).1
  exact va_ldcS hx hb hown hq hd (k al (vR (gK G i) 30 i :: st) M cs ss (h _) H locs ls hl hal (okS.cons (Or.inl ⟨(List.getElem?_eq_some_iff.mp hw).1, rfl⟩) hst) hgr hrel hS)
def o_load (i : Nat) (φ : Fm) : Fm := fun al st M cs ss => match al.getD i none with
  | some v => φ al (v :: st) M cs ss
  | none => False
theorem o_load_get {i : Nat} {φ : Fm} {al : LA} {st : List AV} {M : Mm} {cs ss : Nat} (h : o_load i φ al st M cs ss) : ∃ v, al[i]? = some (some v) ∧ φ al (v :: st) M cs ss := by
  unfold o_load at h
  cases e : al.getD i none with
  | none => rw [e] at h; exact h.elim
  | some v =>
    rw [e] at h
    refine ⟨v, ?_, h⟩
    rw [List.getD_eq_getElem?_getD] at e
    cases e2 : al[i]? with
    | none => rw [e2] at e; cases e
    | some w => rw [e2] at e; exact congrArg some e
def o_iload (i : Nat) (φ : Fm) : Fm := fun al st M cs ss => match al.getD i none with
  | some (Sum.inl z) => φ al (Sum.inl z :: st) M cs ss
  | _ => False
theorem o_iload_get {i : Nat} {φ : Fm} {al : LA} {st : List AV} {M : Mm} {cs ss : Nat} (h : o_iload i φ al st M cs ss) : ∃ z, al[i]? = some (some (Sum.inl z)) ∧ φ al (Sum.inl z :: st) M cs ss := by
  unfold o_iload at h
  split at h
  · next z e =>
    refine ⟨z, ?_, h⟩
    rw [List.getD_eq_getElem?_getD] at e
    cases e2 : al[i]? with
    | none => rw [e2] at e; cases e
    | some w => rw [e2] at e; exact congrArg some e
  · exact h.elim
theorem s_iload_n {Z : ZT} {cc : ByteArray} {own : String} {ret : Option FieldType} {d mc9 ms9 : Nat} {G9 : GT} {Q : Option AV → Mm → Prop} (C : Zok Z cc own ret d G9 mc9 ms9 Q) {pc : Nat} {k0 : Fin 4} {i : Nat} {φ : Fm} (hd : decode cc pc = .ok (.iload_n k0, 1)) (hi : (k0 : Nat) = i) (k : Sd Z φ (pc + 1)) : Sd Z (o_iload i φ) pc := by
  obtain ⟨p, e, R, s, m, args, below, meth, c, G, x9, M0, Q', QX, mc, ms⟩ := Z
  obtain ⟨hx, hb, hown, hts, hlk, hr, hG, hR, hQ, rfl, rfl, rfl, hB⟩ := C
  intro al st M cs ss h H locs ls hl hal hst hgr hrel hS
  obtain ⟨z, hv, h⟩ := o_iload_get h
  have hls := hl.2.2 _ _ hv
  have hk := k al (Sum.inl z :: st) M cs ss h H locs ls hl hal (okS.cons (hal _ (List.mem_of_getElem? hv)) hst) hgr hrel hS
  exact lv_iload_n hx hb hd hi hls hk
theorem s_iload {Z : ZT} {cc : ByteArray} {own : String} {ret : Option FieldType} {d mc9 ms9 : Nat} {G9 : GT} {Q : Option AV → Mm → Prop} (C : Zok Z cc own ret d G9 mc9 ms9 Q) {pc : Nat} {i : Nat} {φ : Fm} (hd : decode cc pc = .ok (.iload i, 2)) (k : Sd Z φ (pc + 2)) : Sd Z (o_iload i φ) pc := by
  obtain ⟨p, e, R, s, m, args, below, meth, c, G, x9, M0, Q', QX, mc, ms⟩ := Z
  obtain ⟨hx, hb, hown, hts, hlk, hr, hG, hR, hQ, rfl, rfl, rfl, hB⟩ := C
  intro al st M cs ss h H locs ls hl hal hst hgr hrel hS
  obtain ⟨z, hv, h⟩ := o_iload_get h
  have hls := hl.2.2 _ _ hv
  have hk := k al (Sum.inl z :: st) M cs ss h H locs ls hl hal (okS.cons (hal _ (List.mem_of_getElem? hv)) hst) hgr hrel hS
  exact lv_iload hx hb hd hls hk
def o_lload (i : Nat) (φ : Fm) : Fm := fun al st M cs ss => match al.getD i none with
  | some (Sum.inr (Sum.inl z)) => φ al (Sum.inr (Sum.inl z) :: st) M cs ss
  | _ => False
theorem o_lload_get {i : Nat} {φ : Fm} {al : LA} {st : List AV} {M : Mm} {cs ss : Nat} (h : o_lload i φ al st M cs ss) : ∃ z, al[i]? = some (some (Sum.inr (Sum.inl z))) ∧ φ al (Sum.inr (Sum.inl z) :: st) M cs ss := by
  unfold o_lload at h
  split at h
  · next z e =>
    refine ⟨z, ?_, h⟩
    rw [List.getD_eq_getElem?_getD] at e
    cases e2 : al[i]? with
    | none => rw [e2] at e; cases e
    | some w => rw [e2] at e; exact congrArg some e
  · exact h.elim
theorem s_lload_n {Z : ZT} {cc : ByteArray} {own : String} {ret : Option FieldType} {d mc9 ms9 : Nat} {G9 : GT} {Q : Option AV → Mm → Prop} (C : Zok Z cc own ret d G9 mc9 ms9 Q) {pc : Nat} {k0 : Fin 4} {i : Nat} {φ : Fm} (hd : decode cc pc = .ok (.lload_n k0, 1)) (hi : (k0 : Nat) = i) (k : Sd Z φ (pc + 1)) : Sd Z (o_lload i φ) pc := by
  obtain ⟨p, e, R, s, m, args, below, meth, c, G, x9, M0, Q', QX, mc, ms⟩ := Z
  obtain ⟨hx, hb, hown, hts, hlk, hr, hG, hR, hQ, rfl, rfl, rfl, hB⟩ := C
  intro al st M cs ss h H locs ls hl hal hst hgr hrel hS
  obtain ⟨z, hv, h⟩ := o_lload_get h
  have hls := hl.2.2 _ _ hv
  have hk := k al (Sum.inr (Sum.inl z) :: st) M cs ss h H locs ls hl hal (okS.cons (hal _ (List.mem_of_getElem? hv)) hst) hgr hrel hS
  exact lv_lload_n hx hb hd hi hls hk
theorem s_lload {Z : ZT} {cc : ByteArray} {own : String} {ret : Option FieldType} {d mc9 ms9 : Nat} {G9 : GT} {Q : Option AV → Mm → Prop} (C : Zok Z cc own ret d G9 mc9 ms9 Q) {pc : Nat} {i : Nat} {φ : Fm} (hd : decode cc pc = .ok (.lload i, 2)) (k : Sd Z φ (pc + 2)) : Sd Z (o_lload i φ) pc := by
  obtain ⟨p, e, R, s, m, args, below, meth, c, G, x9, M0, Q', QX, mc, ms⟩ := Z
  obtain ⟨hx, hb, hown, hts, hlk, hr, hG, hR, hQ, rfl, rfl, rfl, hB⟩ := C
  intro al st M cs ss h H locs ls hl hal hst hgr hrel hS
  obtain ⟨z, hv, h⟩ := o_lload_get h
  have hls := hl.2.2 _ _ hv
  have hk := k al (Sum.inr (Sum.inl z) :: st) M cs ss h H locs ls hl hal (okS.cons (hal _ (List.mem_of_getElem? hv)) hst) hgr hrel hS
  exact lv_lload hx hb hd hls hk
def o_aload (i : Nat) (φ : Fm) : Fm := fun al st M cs ss => match al.getD i none with
  | some (Sum.inr (Sum.inr z)) => φ al (Sum.inr (Sum.inr z) :: st) M cs ss
  | _ => False
theorem o_aload_get {i : Nat} {φ : Fm} {al : LA} {st : List AV} {M : Mm} {cs ss : Nat} (h : o_aload i φ al st M cs ss) : ∃ z, al[i]? = some (some (Sum.inr (Sum.inr z))) ∧ φ al (Sum.inr (Sum.inr z) :: st) M cs ss := by
  unfold o_aload at h
  split at h
  · next z e =>
    refine ⟨z, ?_, h⟩
    rw [List.getD_eq_getElem?_getD] at e
    cases e2 : al[i]? with
    | none => rw [e2] at e; cases e
    | some w => rw [e2] at e; exact congrArg some e
  · exact h.elim
theorem s_aload_n {Z : ZT} {cc : ByteArray} {own : String} {ret : Option FieldType} {d mc9 ms9 : Nat} {G9 : GT} {Q : Option AV → Mm → Prop} (C : Zok Z cc own ret d G9 mc9 ms9 Q) {pc : Nat} {k0 : Fin 4} {i : Nat} {φ : Fm} (hd : decode cc pc = .ok (.aload_n k0, 1)) (hi : (k0 : Nat) = i) (k : Sd Z φ (pc + 1)) : Sd Z (o_aload i φ) pc := by
  obtain ⟨p, e, R, s, m, args, below, meth, c, G, x9, M0, Q', QX, mc, ms⟩ := Z
  obtain ⟨hx, hb, hown, hts, hlk, hr, hG, hR, hQ, rfl, rfl, rfl, hB⟩ := C
  intro al st M cs ss h H locs ls hl hal hst hgr hrel hS
  obtain ⟨z, hv, h⟩ := o_aload_get h
  have hls := hl.2.2 _ _ hv
  have hk := k al (Sum.inr (Sum.inr z) :: st) M cs ss h H locs ls hl hal (okS.cons (hal _ (List.mem_of_getElem? hv)) hst) hgr hrel hS
  cases z with
  | none => exact lv_aload_nN hx hb hd hi (show ls[i]? = some (.val .null) from hls) hk
  | some q => exact lv_aload_n hx hb hd hi (x := q.1) hls hk
theorem s_aload {Z : ZT} {cc : ByteArray} {own : String} {ret : Option FieldType} {d mc9 ms9 : Nat} {G9 : GT} {Q : Option AV → Mm → Prop} (C : Zok Z cc own ret d G9 mc9 ms9 Q) {pc : Nat} {i : Nat} {φ : Fm} (hd : decode cc pc = .ok (.aload i, 2)) (k : Sd Z φ (pc + 2)) : Sd Z (o_aload i φ) pc := by
  obtain ⟨p, e, R, s, m, args, below, meth, c, G, x9, M0, Q', QX, mc, ms⟩ := Z
  obtain ⟨hx, hb, hown, hts, hlk, hr, hG, hR, hQ, rfl, rfl, rfl, hB⟩ := C
  intro al st M cs ss h H locs ls hl hal hst hgr hrel hS
  obtain ⟨z, hv, h⟩ := o_aload_get h
  have hls := hl.2.2 _ _ hv
  have hk := k al (Sum.inr (Sum.inr z) :: st) M cs ss h H locs ls hl hal (okS.cons (hal _ (List.mem_of_getElem? hv)) hst) hgr hrel hS
  cases z with
  | none => exact lv_aloadN hx hb hd (show ls[i]? = some (.val .null) from hls) hk
  | some q => exact lv_aload hx hb hd (x := q.1) hls hk
def o_istore (i : Nat) (φ : Fm) : Fm := fun al st M cs ss => match st with
  | Sum.inl z :: st => φ (lst al i (Sum.inl z)) st M cs ss
  | _ => False
theorem s_istore_n {Z : ZT} {cc : ByteArray} {own : String} {ret : Option FieldType} {d mc9 ms9 : Nat} {G9 : GT} {Q : Option AV → Mm → Prop} (C : Zok Z cc own ret d G9 mc9 ms9 Q) {pc : Nat} {k0 : Fin 4} {i : Nat} {φ : Fm} {nL : Nat} (hd : decode cc pc = .ok (.istore_n k0, 1)) (hi : (k0 : Nat) = i) (hn : i < nL) (hml : Zml Z = nL) (k : Sd Z φ (pc + 1)) : Sd Z (o_istore i φ) pc := by
  obtain ⟨p, e, R, s, m, args, below, meth, c, G, x9, M0, Q', QX, mc, ms⟩ := Z
  obtain ⟨hx, hb, hown, hts, hlk, hr, hG, hR, hQ, rfl, rfl, rfl, hB⟩ := C
  intro al st M cs ss h H locs ls hl hal hst hgr hrel hS
  unfold o_istore at h
  split at h
  · next z st0 =>
    have hml : c.maxLocals = nL := hml
    exact lv_istore_n (lv := asc al) (x := z) hx hb hd hi hl.has (by rw [hml]; exact hn) rfl (fun ls' hl' => k _ st0 M cs ss h H locs ls' (LR.st1 rfl hl') (okL.lst hal (okS.head hst)) (okS.tail hst) hgr hrel hS)
  · exact h.elim
theorem s_istore {Z : ZT} {cc : ByteArray} {own : String} {ret : Option FieldType} {d mc9 ms9 : Nat} {G9 : GT} {Q : Option AV → Mm → Prop} (C : Zok Z cc own ret d G9 mc9 ms9 Q) {pc : Nat} {i : Nat} {φ : Fm} {nL : Nat} (hd : decode cc pc = .ok (.istore i, 2)) (hn : i < nL) (hml : Zml Z = nL) (k : Sd Z φ (pc + 2)) : Sd Z (o_istore i φ) pc := by
  obtain ⟨p, e, R, s, m, args, below, meth, c, G, x9, M0, Q', QX, mc, ms⟩ := Z
  obtain ⟨hx, hb, hown, hts, hlk, hr, hG, hR, hQ, rfl, rfl, rfl, hB⟩ := C
  intro al st M cs ss h H locs ls hl hal hst hgr hrel hS
  unfold o_istore at h
  split at h
  · next z st0 =>
    have hml : c.maxLocals = nL := hml
    exact lv_istore (lv := asc al) (x := z) hx hb hd hl.has (by rw [hml]; exact hn) rfl (fun ls' hl' => k _ st0 M cs ss h H locs ls' (LR.st1 rfl hl') (okL.lst hal (okS.head hst)) (okS.tail hst) hgr hrel hS)
  · exact h.elim
def o_lstore (i : Nat) (φ : Fm) : Fm := fun al st M cs ss => match st with
  | Sum.inr (Sum.inl z) :: st => φ (lst al i (Sum.inr (Sum.inl z))) st M cs ss
  | _ => False
theorem s_lstore_n {Z : ZT} {cc : ByteArray} {own : String} {ret : Option FieldType} {d mc9 ms9 : Nat} {G9 : GT} {Q : Option AV → Mm → Prop} (C : Zok Z cc own ret d G9 mc9 ms9 Q) {pc : Nat} {k0 : Fin 4} {i : Nat} {φ : Fm} {nL : Nat} (hd : decode cc pc = .ok (.lstore_n k0, 1)) (hi : (k0 : Nat) = i) (hn : i + 1 < nL) (hml : Zml Z = nL) (k : Sd Z φ (pc + 1)) : Sd Z (o_lstore i φ) pc := by
  obtain ⟨p, e, R, s, m, args, below, meth, c, G, x9, M0, Q', QX, mc, ms⟩ := Z
  obtain ⟨hx, hb, hown, hts, hlk, hr, hG, hR, hQ, rfl, rfl, rfl, hB⟩ := C
  intro al st M cs ss h H locs ls hl hal hst hgr hrel hS
  unfold o_lstore at h
  split at h
  · next z st0 =>
    have hml : c.maxLocals = nL := hml
    exact lv_lstore_n (lv := asc al) (x := z) hx hb hd hi hl.has (by rw [hml]; exact hn) rfl (fun ls' hl' => k _ st0 M cs ss h H locs ls' (LR.st2 rfl hl') (okL.lst hal (okS.head hst)) (okS.tail hst) hgr hrel hS)
  · exact h.elim
theorem s_lstore {Z : ZT} {cc : ByteArray} {own : String} {ret : Option FieldType} {d mc9 ms9 : Nat} {G9 : GT} {Q : Option AV → Mm → Prop} (C : Zok Z cc own ret d G9 mc9 ms9 Q) {pc : Nat} {i : Nat} {φ : Fm} {nL : Nat} (hd : decode cc pc = .ok (.lstore i, 2)) (hn : i + 1 < nL) (hml : Zml Z = nL) (k : Sd Z φ (pc + 2)) : Sd Z (o_lstore i φ) pc := by
  obtain ⟨p, e, R, s, m, args, below, meth, c, G, x9, M0, Q', QX, mc, ms⟩ := Z
  obtain ⟨hx, hb, hown, hts, hlk, hr, hG, hR, hQ, rfl, rfl, rfl, hB⟩ := C
  intro al st M cs ss h H locs ls hl hal hst hgr hrel hS
  unfold o_lstore at h
  split at h
  · next z st0 =>
    have hml : c.maxLocals = nL := hml
    exact lv_lstore (lv := asc al) (x := z) hx hb hd hl.has (by rw [hml]; exact hn) rfl (fun ls' hl' => k _ st0 M cs ss h H locs ls' (LR.st2 rfl hl') (okL.lst hal (okS.head hst)) (okS.tail hst) hgr hrel hS)
  · exact h.elim
def o_astore (i : Nat) (φ : Fm) : Fm := fun al st M cs ss => match st with
  | Sum.inr (Sum.inr z) :: st => φ (lst al i (Sum.inr (Sum.inr z))) st M cs ss
  | _ => False
theorem s_astore_n {Z : ZT} {cc : ByteArray} {own : String} {ret : Option FieldType} {d mc9 ms9 : Nat} {G9 : GT} {Q : Option AV → Mm → Prop} (C : Zok Z cc own ret d G9 mc9 ms9 Q) {pc : Nat} {k0 : Fin 4} {i : Nat} {φ : Fm} {nL : Nat} (hd : decode cc pc = .ok (.astore_n k0, 1)) (hi : (k0 : Nat) = i) (hn : i < nL) (hml : Zml Z = nL) (k : Sd Z φ (pc + 1)) : Sd Z (o_astore i φ) pc := by
  obtain ⟨p, e, R, s, m, args, below, meth, c, G, x9, M0, Q', QX, mc, ms⟩ := Z
  obtain ⟨hx, hb, hown, hts, hlk, hr, hG, hR, hQ, rfl, rfl, rfl, hB⟩ := C
  intro al st M cs ss h H locs ls hl hal hst hgr hrel hS
  unfold o_astore at h
  split at h
  · next z st0 =>
    have hml : c.maxLocals = nL := hml
    cases z with
    | none => exact lv_astore_nN (lv := asc al) hx hb hd hi hl.has (by rw [hml]; exact hn) rfl (fun ls' hl' => k _ st0 M cs ss h H locs ls' (LR.st1 rfl hl') (okL.lst hal (okS.head hst)) (okS.tail hst) hgr hrel hS)
    | some q => exact lv_astore_n (lv := asc al) (x := q.1) hx hb hd hi hl.has (by rw [hml]; exact hn) rfl (fun ls' hl' => k _ st0 M cs ss h H locs ls' (LR.st1 rfl hl') (okL.lst hal (okS.head hst)) (okS.tail hst) hgr hrel hS)
  · exact h.elim
theorem s_astore {Z : ZT} {cc : ByteArray} {own : String} {ret : Option FieldType} {d mc9 ms9 : Nat} {G9 : GT} {Q : Option AV → Mm → Prop} (C : Zok Z cc own ret d G9 mc9 ms9 Q) {pc : Nat} {i : Nat} {φ : Fm} {nL : Nat} (hd : decode cc pc = .ok (.astore i, 2)) (hn : i < nL) (hml : Zml Z = nL) (k : Sd Z φ (pc + 2)) : Sd Z (o_astore i φ) pc := by
  obtain ⟨p, e, R, s, m, args, below, meth, c, G, x9, M0, Q', QX, mc, ms⟩ := Z
  obtain ⟨hx, hb, hown, hts, hlk, hr, hG, hR, hQ, rfl, rfl, rfl, hB⟩ := C
  intro al st M cs ss h H locs ls hl hal hst hgr hrel hS
  unfold o_astore at h
  split at h
  · next z st0 =>
    have hml : c.maxLocals = nL := hml
    cases z with
    | none => exact lv_astoreN (lv := asc al) hx hb hd hl.has (by rw [hml]; exact hn) rfl (fun ls' hl' => k _ st0 M cs ss h H locs ls' (LR.st1 rfl hl') (okL.lst hal (okS.head hst)) (okS.tail hst) hgr hrel hS)
    | some q => exact lv_astore (lv := asc al) (x := q.1) hx hb hd hl.has (by rw [hml]; exact hn) rfl (fun ls' hl' => k _ st0 M cs ss h H locs ls' (LR.st1 rfl hl') (okL.lst hal (okS.head hst)) (okS.tail hst) hgr hrel hS)
  · exact h.elim
def o_iinc (i : Nat) (n : Int32) (φ : Fm) : Fm := fun al st M cs ss => match al.getD i none with
  | some (Sum.inl z) => φ (lst al i (vI (z + n))) st M cs ss
  | _ => False
theorem s_iinc {Z : ZT} {cc : ByteArray} {own : String} {ret : Option FieldType} {d mc9 ms9 : Nat} {G9 : GT} {Q : Option AV → Mm → Prop} (C : Zok Z cc own ret d G9 mc9 ms9 Q) {pc : Nat} {i : Nat} {n : Int} {n' : Int32} {φ : Fm} {nL : Nat} (hd : decode cc pc = .ok (.iinc i n, 3)) (hn : i < nL) (hml : Zml Z = nL) (hn' : Int32.ofInt n = n') (k : Sd Z φ (pc + 3)) : Sd Z (o_iinc i n' φ) pc := by
  obtain ⟨p, e, R, s, m, args, below, meth, c, G, x9, M0, Q', QX, mc, ms⟩ := Z
  obtain ⟨hx, hb, hown, hts, hlk, hr, hG, hR, hQ, rfl, rfl, rfl, hB⟩ := C
  intro al st M cs ss h H locs ls hl hal hst hgr hrel hS
  unfold o_iinc at h
  split at h
  · next z e =>
    have hml : c.maxLocals = nL := hml
    have hv : al[i]? = some (some (vI z)) := by
      rw [List.getD_eq_getElem?_getD] at e
      cases e2 : al[i]? with
      | none => rw [e2] at e; cases e
      | some w => rw [e2] at e; exact congrArg some e
    obtain ⟨k9, hk9⟩ := List.getElem?_of_mem (asc_mem.mpr ⟨vI z, hv, rfl⟩ : (i, cv (vI z)) ∈ asc al)
    exact lv_iinc (lv := asc al) (k := k9) (x := z) (v := z + n') hx hb hd hl.has hk9 (by rw [hn']) (by rw [hml]; exact hn) rfl (fun ls' hl' => k _ st M cs ss h H locs ls' (LR.st1 rfl hl') (okL.lst hal trivial) hst hgr hrel hS)
  · exact h.elim
def o_bin (f : Int32 → Int32 → Int32) (φ : Fm) : Fm := fun al st M cs ss => match st with
  | Sum.inl y :: Sum.inl x :: st => φ al (vI (f x y) :: st) M cs ss
  | _ => False
def o_div (f : Int32 → Int32 → Int32) (φ : Fm) : Fm := fun al st M cs ss => match st with
  | Sum.inl y :: Sum.inl x :: st => (¬ y = 0) ∧ φ al (vI (f x y) :: st) M cs ss
  | _ => False
def o_un (f : Int32 → Int32) (φ : Fm) : Fm := fun al st M cs ss => match st with
  | Sum.inl x :: st => φ al (vI (f x) :: st) M cs ss
  | _ => False
theorem s_iadd {Z : ZT} {cc : ByteArray} {own : String} {ret : Option FieldType} {d mc9 ms9 : Nat} {G9 : GT} {Q : Option AV → Mm → Prop} (C : Zok Z cc own ret d G9 mc9 ms9 Q) {pc : Nat} {φ : Fm} (hd : decode cc pc = .ok (.iadd, 1)) (k : Sd Z φ (pc + 1)) : Sd Z (o_bin (fun x y => x + y) φ) pc := by
  obtain ⟨p, e, R, s, m, args, below, meth, c, G, x9, M0, Q', QX, mc, ms⟩ := Z
  obtain ⟨hx, hb, hown, hts, hlk, hr, hG, hR, hQ, rfl, rfl, rfl, hB⟩ := C
  intro al st M cs ss h H locs ls hl hal hst hgr hrel hS
  unfold o_bin at h
  split at h
  · next y x st0 => exact lv_iadd hx hb hd (k al _ M cs ss h H locs ls hl hal (okS.cons trivial (okS.tail (okS.tail hst))) hgr hrel hS)
  · exact h.elim
theorem s_isub {Z : ZT} {cc : ByteArray} {own : String} {ret : Option FieldType} {d mc9 ms9 : Nat} {G9 : GT} {Q : Option AV → Mm → Prop} (C : Zok Z cc own ret d G9 mc9 ms9 Q) {pc : Nat} {φ : Fm} (hd : decode cc pc = .ok (.isub, 1)) (k : Sd Z φ (pc + 1)) : Sd Z (o_bin (fun x y => x - y) φ) pc := by
  obtain ⟨p, e, R, s, m, args, below, meth, c, G, x9, M0, Q', QX, mc, ms⟩ := Z
  obtain ⟨hx, hb, hown, hts, hlk, hr, hG, hR, hQ, rfl, rfl, rfl, hB⟩ := C
  intro al st M cs ss h H locs ls hl hal hst hgr hrel hS
  unfold o_bin at h
  split at h
  · next y x st0 => exact lv_isub hx hb hd (k al _ M cs ss h H locs ls hl hal (okS.cons trivial (okS.tail (okS.tail hst))) hgr hrel hS)
  · exact h.elim
theorem s_imul {Z : ZT} {cc : ByteArray} {own : String} {ret : Option FieldType} {d mc9 ms9 : Nat} {G9 : GT} {Q : Option AV → Mm → Prop} (C : Zok Z cc own ret d G9 mc9 ms9 Q) {pc : Nat} {φ : Fm} (hd : decode cc pc = .ok (.imul, 1)) (k : Sd Z φ (pc + 1)) : Sd Z (o_bin (fun x y => x * y) φ) pc := by
  obtain ⟨p, e, R, s, m, args, below, meth, c, G, x9, M0, Q', QX, mc, ms⟩ := Z
  obtain ⟨hx, hb, hown, hts, hlk, hr, hG, hR, hQ, rfl, rfl, rfl, hB⟩ := C
  intro al st M cs ss h H locs ls hl hal hst hgr hrel hS
  unfold o_bin at h
  split at h
  · next y x st0 => exact lv_imul hx hb hd (k al _ M cs ss h H locs ls hl hal (okS.cons trivial (okS.tail (okS.tail hst))) hgr hrel hS)
  · exact h.elim
theorem s_iand {Z : ZT} {cc : ByteArray} {own : String} {ret : Option FieldType} {d mc9 ms9 : Nat} {G9 : GT} {Q : Option AV → Mm → Prop} (C : Zok Z cc own ret d G9 mc9 ms9 Q) {pc : Nat} {φ : Fm} (hd : decode cc pc = .ok (.iand, 1)) (k : Sd Z φ (pc + 1)) : Sd Z (o_bin (fun x y => x &&& y) φ) pc := by
  obtain ⟨p, e, R, s, m, args, below, meth, c, G, x9, M0, Q', QX, mc, ms⟩ := Z
  obtain ⟨hx, hb, hown, hts, hlk, hr, hG, hR, hQ, rfl, rfl, rfl, hB⟩ := C
  intro al st M cs ss h H locs ls hl hal hst hgr hrel hS
  unfold o_bin at h
  split at h
  · next y x st0 => exact lv_iand hx hb hd (k al _ M cs ss h H locs ls hl hal (okS.cons trivial (okS.tail (okS.tail hst))) hgr hrel hS)
  · exact h.elim
theorem s_ior {Z : ZT} {cc : ByteArray} {own : String} {ret : Option FieldType} {d mc9 ms9 : Nat} {G9 : GT} {Q : Option AV → Mm → Prop} (C : Zok Z cc own ret d G9 mc9 ms9 Q) {pc : Nat} {φ : Fm} (hd : decode cc pc = .ok (.ior, 1)) (k : Sd Z φ (pc + 1)) : Sd Z (o_bin (fun x y => x ||| y) φ) pc := by
  obtain ⟨p, e, R, s, m, args, below, meth, c, G, x9, M0, Q', QX, mc, ms⟩ := Z
  obtain ⟨hx, hb, hown, hts, hlk, hr, hG, hR, hQ, rfl, rfl, rfl, hB⟩ := C
  intro al st M cs ss h H locs ls hl hal hst hgr hrel hS
  unfold o_bin at h
  split at h
  · next y x st0 => exact lv_ior hx hb hd (k al _ M cs ss h H locs ls hl hal (okS.cons trivial (okS.tail (okS.tail hst))) hgr hrel hS)
  · exact h.elim
theorem s_ixor {Z : ZT} {cc : ByteArray} {own : String} {ret : Option FieldType} {d mc9 ms9 : Nat} {G9 : GT} {Q : Option AV → Mm → Prop} (C : Zok Z cc own ret d G9 mc9 ms9 Q) {pc : Nat} {φ : Fm} (hd : decode cc pc = .ok (.ixor, 1)) (k : Sd Z φ (pc + 1)) : Sd Z (o_bin (fun x y => x ^^^ y) φ) pc := by
  obtain ⟨p, e, R, s, m, args, below, meth, c, G, x9, M0, Q', QX, mc, ms⟩ := Z
  obtain ⟨hx, hb, hown, hts, hlk, hr, hG, hR, hQ, rfl, rfl, rfl, hB⟩ := C
  intro al st M cs ss h H locs ls hl hal hst hgr hrel hS
  unfold o_bin at h
  split at h
  · next y x st0 => exact lv_ixor hx hb hd (k al _ M cs ss h H locs ls hl hal (okS.cons trivial (okS.tail (okS.tail hst))) hgr hrel hS)
  · exact h.elim
theorem s_ishl {Z : ZT} {cc : ByteArray} {own : String} {ret : Option FieldType} {d mc9 ms9 : Nat} {G9 : GT} {Q : Option AV → Mm → Prop} (C : Zok Z cc own ret d G9 mc9 ms9 Q) {pc : Nat} {φ : Fm} (hd : decode cc pc = .ok (.ishl, 1)) (k : Sd Z φ (pc + 1)) : Sd Z (o_bin (fun x y => x <<< (y &&& 31)) φ) pc := by
  obtain ⟨p, e, R, s, m, args, below, meth, c, G, x9, M0, Q', QX, mc, ms⟩ := Z
  obtain ⟨hx, hb, hown, hts, hlk, hr, hG, hR, hQ, rfl, rfl, rfl, hB⟩ := C
  intro al st M cs ss h H locs ls hl hal hst hgr hrel hS
  unfold o_bin at h
  split at h
  · next y x st0 => exact lv_ishl hx hb hd (k al _ M cs ss h H locs ls hl hal (okS.cons trivial (okS.tail (okS.tail hst))) hgr hrel hS)
  · exact h.elim
theorem s_ishr {Z : ZT} {cc : ByteArray} {own : String} {ret : Option FieldType} {d mc9 ms9 : Nat} {G9 : GT} {Q : Option AV → Mm → Prop} (C : Zok Z cc own ret d G9 mc9 ms9 Q) {pc : Nat} {φ : Fm} (hd : decode cc pc = .ok (.ishr, 1)) (k : Sd Z φ (pc + 1)) : Sd Z (o_bin (fun x y => x >>> (y &&& 31)) φ) pc := by
  obtain ⟨p, e, R, s, m, args, below, meth, c, G, x9, M0, Q', QX, mc, ms⟩ := Z
  obtain ⟨hx, hb, hown, hts, hlk, hr, hG, hR, hQ, rfl, rfl, rfl, hB⟩ := C
  intro al st M cs ss h H locs ls hl hal hst hgr hrel hS
  unfold o_bin at h
  split at h
  · next y x st0 => exact lv_ishr hx hb hd (k al _ M cs ss h H locs ls hl hal (okS.cons trivial (okS.tail (okS.tail hst))) hgr hrel hS)
  · exact h.elim
theorem s_iushr {Z : ZT} {cc : ByteArray} {own : String} {ret : Option FieldType} {d mc9 ms9 : Nat} {G9 : GT} {Q : Option AV → Mm → Prop} (C : Zok Z cc own ret d G9 mc9 ms9 Q) {pc : Nat} {φ : Fm} (hd : decode cc pc = .ok (.iushr, 1)) (k : Sd Z φ (pc + 1)) : Sd Z (o_bin (fun x y => (x.toUInt32 >>> (y.toUInt32 &&& Int32.toUInt32 31)).toInt32) φ) pc := by
  obtain ⟨p, e, R, s, m, args, below, meth, c, G, x9, M0, Q', QX, mc, ms⟩ := Z
  obtain ⟨hx, hb, hown, hts, hlk, hr, hG, hR, hQ, rfl, rfl, rfl, hB⟩ := C
  intro al st M cs ss h H locs ls hl hal hst hgr hrel hS
  unfold o_bin at h
  split at h
  · next y x st0 => exact lv_iushr hx hb hd rfl (k al _ M cs ss h H locs ls hl hal (okS.cons trivial (okS.tail (okS.tail hst))) hgr hrel hS)
  · exact h.elim
theorem s_idiv {Z : ZT} {cc : ByteArray} {own : String} {ret : Option FieldType} {d mc9 ms9 : Nat} {G9 : GT} {Q : Option AV → Mm → Prop} (C : Zok Z cc own ret d G9 mc9 ms9 Q) {pc : Nat} {φ : Fm} (hd : decode cc pc = .ok (.idiv, 1)) (k : Sd Z φ (pc + 1)) : Sd Z (o_div (fun x y => x / y) φ) pc := by
  obtain ⟨p, e, R, s, m, args, below, meth, c, G, x9, M0, Q', QX, mc, ms⟩ := Z
  obtain ⟨hx, hb, hown, hts, hlk, hr, hG, hR, hQ, rfl, rfl, rfl, hB⟩ := C
  intro al st M cs ss h H locs ls hl hal hst hgr hrel hS
  unfold o_div at h
  split at h
  · next y x st0 => exact lv_idiv hx hb hd h.1 (k al _ M cs ss h.2 H locs ls hl hal (okS.cons trivial (okS.tail (okS.tail hst))) hgr hrel hS)
  · exact h.elim
theorem s_irem {Z : ZT} {cc : ByteArray} {own : String} {ret : Option FieldType} {d mc9 ms9 : Nat} {G9 : GT} {Q : Option AV → Mm → Prop} (C : Zok Z cc own ret d G9 mc9 ms9 Q) {pc : Nat} {φ : Fm} (hd : decode cc pc = .ok (.irem, 1)) (k : Sd Z φ (pc + 1)) : Sd Z (o_div (fun x y => x - x / y * y) φ) pc := by
  obtain ⟨p, e, R, s, m, args, below, meth, c, G, x9, M0, Q', QX, mc, ms⟩ := Z
  obtain ⟨hx, hb, hown, hts, hlk, hr, hG, hR, hQ, rfl, rfl, rfl, hB⟩ := C
  intro al st M cs ss h H locs ls hl hal hst hgr hrel hS
  unfold o_div at h
  split at h
  · next y x st0 => exact lv_irem hx hb hd h.1 (k al _ M cs ss h.2 H locs ls hl hal (okS.cons trivial (okS.tail (okS.tail hst))) hgr hrel hS)
  · exact h.elim
theorem s_ineg {Z : ZT} {cc : ByteArray} {own : String} {ret : Option FieldType} {d mc9 ms9 : Nat} {G9 : GT} {Q : Option AV → Mm → Prop} (C : Zok Z cc own ret d G9 mc9 ms9 Q) {pc : Nat} {φ : Fm} (hd : decode cc pc = .ok (.ineg, 1)) (k : Sd Z φ (pc + 1)) : Sd Z (o_un (fun x => -x) φ) pc := by
  obtain ⟨p, e, R, s, m, args, below, meth, c, G, x9, M0, Q', QX, mc, ms⟩ := Z
  obtain ⟨hx, hb, hown, hts, hlk, hr, hG, hR, hQ, rfl, rfl, rfl, hB⟩ := C
  intro al st M cs ss h H locs ls hl hal hst hgr hrel hS
  unfold o_un at h
  split at h
  · next x st0 => exact lv_ineg hx hb hd (k al _ M cs ss h H locs ls hl hal (okS.cons trivial (okS.tail hst)) hgr hrel hS)
  · exact h.elim
theorem s_i2c {Z : ZT} {cc : ByteArray} {own : String} {ret : Option FieldType} {d mc9 ms9 : Nat} {G9 : GT} {Q : Option AV → Mm → Prop} (C : Zok Z cc own ret d G9 mc9 ms9 Q) {pc : Nat} {φ : Fm} (hd : decode cc pc = .ok (.i2c, 1)) (k : Sd Z φ (pc + 1)) : Sd Z (o_un (fun x => (x.toUInt32 % 65536).toInt32) φ) pc := by
  obtain ⟨p, e, R, s, m, args, below, meth, c, G, x9, M0, Q', QX, mc, ms⟩ := Z
  obtain ⟨hx, hb, hown, hts, hlk, hr, hG, hR, hQ, rfl, rfl, rfl, hB⟩ := C
  intro al st M cs ss h H locs ls hl hal hst hgr hrel hS
  unfold o_un at h
  split at h
  · next x st0 => exact lv_i2c hx hb hd rfl (k al _ M cs ss h H locs ls hl hal (okS.cons trivial (okS.tail hst)) hgr hrel hS)
  · exact h.elim
def o_lbin (f : Int64 → Int64 → Int64) (φ : Fm) : Fm := fun al st M cs ss => match st with
  | Sum.inr (Sum.inl y) :: Sum.inr (Sum.inl x) :: st => φ al (vL (f x y) :: st) M cs ss
  | _ => False
def o_ldiv (f : Int64 → Int64 → Int64) (φ : Fm) : Fm := fun al st M cs ss => match st with
  | Sum.inr (Sum.inl y) :: Sum.inr (Sum.inl x) :: st => (¬ y = 0) ∧ φ al (vL (f x y) :: st) M cs ss
  | _ => False
theorem s_ladd {Z : ZT} {cc : ByteArray} {own : String} {ret : Option FieldType} {d mc9 ms9 : Nat} {G9 : GT} {Q : Option AV → Mm → Prop} (C : Zok Z cc own ret d G9 mc9 ms9 Q) {pc : Nat} {φ : Fm} (hd : decode cc pc = .ok (.ladd, 1)) (k : Sd Z φ (pc + 1)) : Sd Z (o_lbin (fun x y => x + y) φ) pc := by
  obtain ⟨p, e, R, s, m, args, below, meth, c, G, x9, M0, Q', QX, mc, ms⟩ := Z
  obtain ⟨hx, hb, hown, hts, hlk, hr, hG, hR, hQ, rfl, rfl, rfl, hB⟩ := C
  intro al st M cs ss h H locs ls hl hal hst hgr hrel hS
  unfold o_lbin at h
  split at h
  · next y x st0 => exact lv_ladd hx hb hd (k al _ M cs ss h H locs ls hl hal (okS.cons trivial (okS.tail (okS.tail hst))) hgr hrel hS)
  · exact h.elim
theorem s_lsub {Z : ZT} {cc : ByteArray} {own : String} {ret : Option FieldType} {d mc9 ms9 : Nat} {G9 : GT} {Q : Option AV → Mm → Prop} (C : Zok Z cc own ret d G9 mc9 ms9 Q) {pc : Nat} {φ : Fm} (hd : decode cc pc = .ok (.lsub, 1)) (k : Sd Z φ (pc + 1)) : Sd Z (o_lbin (fun x y => x - y) φ) pc := by
  obtain ⟨p, e, R, s, m, args, below, meth, c, G, x9, M0, Q', QX, mc, ms⟩ := Z
  obtain ⟨hx, hb, hown, hts, hlk, hr, hG, hR, hQ, rfl, rfl, rfl, hB⟩ := C
  intro al st M cs ss h H locs ls hl hal hst hgr hrel hS
  unfold o_lbin at h
  split at h
  · next y x st0 => exact lv_lsub hx hb hd (k al _ M cs ss h H locs ls hl hal (okS.cons trivial (okS.tail (okS.tail hst))) hgr hrel hS)
  · exact h.elim
theorem s_lmul {Z : ZT} {cc : ByteArray} {own : String} {ret : Option FieldType} {d mc9 ms9 : Nat} {G9 : GT} {Q : Option AV → Mm → Prop} (C : Zok Z cc own ret d G9 mc9 ms9 Q) {pc : Nat} {φ : Fm} (hd : decode cc pc = .ok (.lmul, 1)) (k : Sd Z φ (pc + 1)) : Sd Z (o_lbin (fun x y => x * y) φ) pc := by
  obtain ⟨p, e, R, s, m, args, below, meth, c, G, x9, M0, Q', QX, mc, ms⟩ := Z
  obtain ⟨hx, hb, hown, hts, hlk, hr, hG, hR, hQ, rfl, rfl, rfl, hB⟩ := C
  intro al st M cs ss h H locs ls hl hal hst hgr hrel hS
  unfold o_lbin at h
  split at h
  · next y x st0 => exact lv_lmul hx hb hd (k al _ M cs ss h H locs ls hl hal (okS.cons trivial (okS.tail (okS.tail hst))) hgr hrel hS)
  · exact h.elim
theorem s_ldiv {Z : ZT} {cc : ByteArray} {own : String} {ret : Option FieldType} {d mc9 ms9 : Nat} {G9 : GT} {Q : Option AV → Mm → Prop} (C : Zok Z cc own ret d G9 mc9 ms9 Q) {pc : Nat} {φ : Fm} (hd : decode cc pc = .ok (.ldiv, 1)) (k : Sd Z φ (pc + 1)) : Sd Z (o_ldiv (fun x y => x / y) φ) pc := by
  obtain ⟨p, e, R, s, m, args, below, meth, c, G, x9, M0, Q', QX, mc, ms⟩ := Z
  obtain ⟨hx, hb, hown, hts, hlk, hr, hG, hR, hQ, rfl, rfl, rfl, hB⟩ := C
  intro al st M cs ss h H locs ls hl hal hst hgr hrel hS
  unfold o_ldiv at h
  split at h
  · next y x st0 => exact lv_ldiv hx hb hd h.1 (k al _ M cs ss h.2 H locs ls hl hal (okS.cons trivial (okS.tail (okS.tail hst))) hgr hrel hS)
  · exact h.elim
theorem s_lrem {Z : ZT} {cc : ByteArray} {own : String} {ret : Option FieldType} {d mc9 ms9 : Nat} {G9 : GT} {Q : Option AV → Mm → Prop} (C : Zok Z cc own ret d G9 mc9 ms9 Q) {pc : Nat} {φ : Fm} (hd : decode cc pc = .ok (.lrem, 1)) (k : Sd Z φ (pc + 1)) : Sd Z (o_ldiv (fun x y => x - x / y * y) φ) pc := by
  obtain ⟨p, e, R, s, m, args, below, meth, c, G, x9, M0, Q', QX, mc, ms⟩ := Z
  obtain ⟨hx, hb, hown, hts, hlk, hr, hG, hR, hQ, rfl, rfl, rfl, hB⟩ := C
  intro al st M cs ss h H locs ls hl hal hst hgr hrel hS
  unfold o_ldiv at h
  split at h
  · next y x st0 => exact lv_lrem hx hb hd h.1 (k al _ M cs ss h.2 H locs ls hl hal (okS.cons trivial (okS.tail (okS.tail hst))) hgr hrel hS)
  · exact h.elim
def o_lshl (φ : Fm) : Fm := fun al st M cs ss => match st with
  | Sum.inl y :: Sum.inr (Sum.inl x) :: st => φ al (vL (x <<< (y.toInt64 &&& 63)) :: st) M cs ss
  | _ => False
theorem s_lshl {Z : ZT} {cc : ByteArray} {own : String} {ret : Option FieldType} {d mc9 ms9 : Nat} {G9 : GT} {Q : Option AV → Mm → Prop} (C : Zok Z cc own ret d G9 mc9 ms9 Q) {pc : Nat} {φ : Fm} (hd : decode cc pc = .ok (.lshl, 1)) (k : Sd Z φ (pc + 1)) : Sd Z (o_lshl φ) pc := by
  obtain ⟨p, e, R, s, m, args, below, meth, c, G, x9, M0, Q', QX, mc, ms⟩ := Z
  obtain ⟨hx, hb, hown, hts, hlk, hr, hG, hR, hQ, rfl, rfl, rfl, hB⟩ := C
  intro al st M cs ss h H locs ls hl hal hst hgr hrel hS
  unfold o_lshl at h
  split at h
  · next y x st0 => exact lv_lshl hx hb hd rfl (k al _ M cs ss h H locs ls hl hal (okS.cons trivial (okS.tail (okS.tail hst))) hgr hrel hS)
  · exact h.elim
def o_lcmp (φ : Fm) : Fm := fun al st M cs ss => match st with
  | Sum.inr (Sum.inl y) :: Sum.inr (Sum.inl x) :: st => φ al (vI (lg_cmp x y) :: st) M cs ss
  | _ => False
theorem s_lcmp {Z : ZT} {cc : ByteArray} {own : String} {ret : Option FieldType} {d mc9 ms9 : Nat} {G9 : GT} {Q : Option AV → Mm → Prop} (C : Zok Z cc own ret d G9 mc9 ms9 Q) {pc : Nat} {φ : Fm} (hd : decode cc pc = .ok (.lcmp, 1)) (k : Sd Z φ (pc + 1)) : Sd Z (o_lcmp φ) pc := by
  obtain ⟨p, e, R, s, m, args, below, meth, c, G, x9, M0, Q', QX, mc, ms⟩ := Z
  obtain ⟨hx, hb, hown, hts, hlk, hr, hG, hR, hQ, rfl, rfl, rfl, hB⟩ := C
  intro al st M cs ss h H locs ls hl hal hst hgr hrel hS
  unfold o_lcmp at h
  split at h
  · next y x st0 => exact W.lcmp hx hb hd (k al _ M cs ss h H locs ls hl hal (okS.cons trivial (okS.tail (okS.tail hst))) hgr hrel hS)
  · exact h.elim
def o_i2l (φ : Fm) : Fm := fun al st M cs ss => match st with
  | Sum.inl x :: st => φ al (vL x.toInt64 :: st) M cs ss
  | _ => False
theorem s_i2l {Z : ZT} {cc : ByteArray} {own : String} {ret : Option FieldType} {d mc9 ms9 : Nat} {G9 : GT} {Q : Option AV → Mm → Prop} (C : Zok Z cc own ret d G9 mc9 ms9 Q) {pc : Nat} {φ : Fm} (hd : decode cc pc = .ok (.i2l, 1)) (k : Sd Z φ (pc + 1)) : Sd Z (o_i2l φ) pc := by
  obtain ⟨p, e, R, s, m, args, below, meth, c, G, x9, M0, Q', QX, mc, ms⟩ := Z
  obtain ⟨hx, hb, hown, hts, hlk, hr, hG, hR, hQ, rfl, rfl, rfl, hB⟩ := C
  intro al st M cs ss h H locs ls hl hal hst hgr hrel hS
  unfold o_i2l at h
  split at h
  · next x st0 => exact lv_i2l hx hb hd rfl (k al _ M cs ss h H locs ls hl hal (okS.cons trivial (okS.tail hst)) hgr hrel hS)
  · exact h.elim
def o_dup (φ : Fm) : Fm := fun al st M cs ss => match st with
  | v :: st => cond (isLg (some v)) False (φ al (v :: v :: st) M cs ss)
  | _ => False
theorem cv_cat1 {v : AV} (h : isLg (some v) = false) : (cv v).category = 1 := by rw [cv_cat, h]; rfl
theorem s_dup {Z : ZT} {cc : ByteArray} {own : String} {ret : Option FieldType} {d mc9 ms9 : Nat} {G9 : GT} {Q : Option AV → Mm → Prop} (C : Zok Z cc own ret d G9 mc9 ms9 Q) {pc : Nat} {φ : Fm} (hd : decode cc pc = .ok (.dup, 1)) (k : Sd Z φ (pc + 1)) : Sd Z (o_dup φ) pc := by
  obtain ⟨p, e, R, s, m, args, below, meth, c, G, x9, M0, Q', QX, mc, ms⟩ := Z
  obtain ⟨hx, hb, hown, hts, hlk, hr, hG, hR, hQ, rfl, rfl, rfl, hB⟩ := C
  intro al st M cs ss h H locs ls hl hal hst hgr hrel hS
  unfold o_dup at h
  split at h
  · next v st0 =>
    cases hv9 : isLg (some v) with
    | true => rw [hv9] at h; exact h.elim
    | false =>
      rw [hv9] at h
      exact lv_dup hx hb hd (cv_cat1 hv9) (k al (v :: v :: st0) M cs ss h H locs ls hl hal (okS.cons (okS.head hst) hst) hgr hrel hS)
  · exact h.elim
def o_pop (φ : Fm) : Fm := fun al st M cs ss => match st with
  | v :: st => cond (isLg (some v)) False (φ al st M cs ss)
  | _ => False
theorem s_pop {Z : ZT} {cc : ByteArray} {own : String} {ret : Option FieldType} {d mc9 ms9 : Nat} {G9 : GT} {Q : Option AV → Mm → Prop} (C : Zok Z cc own ret d G9 mc9 ms9 Q) {pc : Nat} {φ : Fm} (hd : decode cc pc = .ok (.pop, 1)) (k : Sd Z φ (pc + 1)) : Sd Z (o_pop φ) pc := by
  obtain ⟨p, e, R, s, m, args, below, meth, c, G, x9, M0, Q', QX, mc, ms⟩ := Z
  obtain ⟨hx, hb, hown, hts, hlk, hr, hG, hR, hQ, rfl, rfl, rfl, hB⟩ := C
  intro al st M cs ss h H locs ls hl hal hst hgr hrel hS
  unfold o_pop at h
  split at h
  · next v st0 =>
    cases hv9 : isLg (some v) with
    | true => rw [hv9] at h; exact h.elim
    | false =>
      rw [hv9] at h
      exact lv_pop hx hb hd (cv_cat1 hv9) (k al st0 M cs ss h H locs ls hl hal (okS.tail hst) hgr hrel hS)
  · exact h.elim
def o_dup2 (φ : Fm) : Fm := fun al st M cs ss => match st with
  | v :: w :: st => cond (isLg (some v) || isLg (some w)) False (φ al (v :: w :: v :: w :: st) M cs ss)
  | _ => False
theorem s_dup2 {Z : ZT} {cc : ByteArray} {own : String} {ret : Option FieldType} {d mc9 ms9 : Nat} {G9 : GT} {Q : Option AV → Mm → Prop} (C : Zok Z cc own ret d G9 mc9 ms9 Q) {pc : Nat} {φ : Fm} (hd : decode cc pc = .ok (.dup2, 1)) (k : Sd Z φ (pc + 1)) : Sd Z (o_dup2 φ) pc := by
  obtain ⟨p, e, R, s, m, args, below, meth, c, G, x9, M0, Q', QX, mc, ms⟩ := Z
  obtain ⟨hx, hb, hown, hts, hlk, hr, hG, hR, hQ, rfl, rfl, rfl, hB⟩ := C
  intro al st M cs ss h H locs ls hl hal hst hgr hrel hS
  unfold o_dup2 at h
  split at h
  · next v w st0 =>
    cases hv9 : (isLg (some v) || isLg (some w)) with
    | true => rw [hv9] at h; exact h.elim
    | false =>
      rw [hv9] at h
      have hv8 := Bool.or_eq_false_iff.mp hv9
      exact lv_dup2_11 hx hb hd (cv_cat1 hv8.1) (cv_cat1 hv8.2) (k al (v :: w :: v :: w :: st0) M cs ss h H locs ls hl hal (okS.cons (okS.head hst) (okS.cons (okS.head (okS.tail hst)) hst)) hgr hrel hS)
  · exact h.elim
def o_if (r : Int32 → Prop) (φt φf : Fm) : Fm := fun al st M cs ss => match st with
  | Sum.inl x :: st => (r x → φt al st M cs ss) ∧ (¬ r x → φf al st M cs ss)
  | _ => False
def o_icmp (r : Int32 → Int32 → Prop) (φt φf : Fm) : Fm := fun al st M cs ss => match st with
  | Sum.inl y :: Sum.inl x :: st => (r x y → φt al st M cs ss) ∧ (¬ r x y → φf al st M cs ss)
  | _ => False
theorem s_if_eq {Z : ZT} {cc : ByteArray} {own : String} {ret : Option FieldType} {d mc9 ms9 : Nat} {G9 : GT} {Q : Option AV → Mm → Prop} (C : Zok Z cc own ret d G9 mc9 ms9 Q) {pc : Nat} {off : Int} {tgt : Nat} {φt φf : Fm} (hd : decode cc pc = .ok (.ifCond .eq off, 3)) (ht : (pc : Int) + off = (tgt : Int)) (kt : Sd Z φt tgt) (kf : Sd Z φf (pc + 3)) : Sd Z (o_if (fun x => x = 0) φt φf) pc := by
  obtain ⟨p, e, R, s, m, args, below, meth, c, G, x9, M0, Q', QX, mc, ms⟩ := Z
  obtain ⟨hx, hb, hown, hts, hlk, hr, hG, hR, hQ, rfl, rfl, rfl, hB⟩ := C
  intro al st M cs ss h H locs ls hl hal hst hgr hrel hS
  unfold o_if at h
  split at h
  · next x st0 => exact lv_if_eq hx hb hd ht (fun q => kt al st0 M cs ss (h.1 q) H locs ls hl hal (okS.tail hst) hgr hrel hS) (fun q => kf al st0 M cs ss (h.2 q) H locs ls hl hal (okS.tail hst) hgr hrel hS)
  · exact h.elim
theorem s_icmp_eq {Z : ZT} {cc : ByteArray} {own : String} {ret : Option FieldType} {d mc9 ms9 : Nat} {G9 : GT} {Q : Option AV → Mm → Prop} (C : Zok Z cc own ret d G9 mc9 ms9 Q) {pc : Nat} {off : Int} {tgt : Nat} {φt φf : Fm} (hd : decode cc pc = .ok (.if_icmp .eq off, 3)) (ht : (pc : Int) + off = (tgt : Int)) (kt : Sd Z φt tgt) (kf : Sd Z φf (pc + 3)) : Sd Z (o_icmp (fun x y => x = y) φt φf) pc := by
  obtain ⟨p, e, R, s, m, args, below, meth, c, G, x9, M0, Q', QX, mc, ms⟩ := Z
  obtain ⟨hx, hb, hown, hts, hlk, hr, hG, hR, hQ, rfl, rfl, rfl, hB⟩ := C
  intro al st M cs ss h H locs ls hl hal hst hgr hrel hS
  unfold o_icmp at h
  split at h
  · next y x st0 => exact lv_icmp_eq hx hb hd ht (fun q => kt al st0 M cs ss (h.1 q) H locs ls hl hal (okS.tail (okS.tail hst)) hgr hrel hS) (fun q => kf al st0 M cs ss (h.2 q) H locs ls hl hal (okS.tail (okS.tail hst)) hgr hrel hS)
  · exact h.elim
theorem s_if_lt {Z : ZT} {cc : ByteArray} {own : String} {ret : Option FieldType} {d mc9 ms9 : Nat} {G9 : GT} {Q : Option AV → Mm → Prop} (C : Zok Z cc own ret d G9 mc9 ms9 Q) {pc : Nat} {off : Int} {tgt : Nat} {φt φf : Fm} (hd : decode cc pc = .ok (.ifCond .lt off, 3)) (ht : (pc : Int) + off = (tgt : Int)) (kt : Sd Z φt tgt) (kf : Sd Z φf (pc + 3)) : Sd Z (o_if (fun x => x < 0) φt φf) pc := by
  obtain ⟨p, e, R, s, m, args, below, meth, c, G, x9, M0, Q', QX, mc, ms⟩ := Z
  obtain ⟨hx, hb, hown, hts, hlk, hr, hG, hR, hQ, rfl, rfl, rfl, hB⟩ := C
  intro al st M cs ss h H locs ls hl hal hst hgr hrel hS
  unfold o_if at h
  split at h
  · next x st0 => exact lv_if_lt hx hb hd ht (fun q => kt al st0 M cs ss (h.1 q) H locs ls hl hal (okS.tail hst) hgr hrel hS) (fun q => kf al st0 M cs ss (h.2 q) H locs ls hl hal (okS.tail hst) hgr hrel hS)
  · exact h.elim
theorem s_icmp_lt {Z : ZT} {cc : ByteArray} {own : String} {ret : Option FieldType} {d mc9 ms9 : Nat} {G9 : GT} {Q : Option AV → Mm → Prop} (C : Zok Z cc own ret d G9 mc9 ms9 Q) {pc : Nat} {off : Int} {tgt : Nat} {φt φf : Fm} (hd : decode cc pc = .ok (.if_icmp .lt off, 3)) (ht : (pc : Int) + off = (tgt : Int)) (kt : Sd Z φt tgt) (kf : Sd Z φf (pc + 3)) : Sd Z (o_icmp (fun x y => x < y) φt φf) pc := by
  obtain ⟨p, e, R, s, m, args, below, meth, c, G, x9, M0, Q', QX, mc, ms⟩ := Z
  obtain ⟨hx, hb, hown, hts, hlk, hr, hG, hR, hQ, rfl, rfl, rfl, hB⟩ := C
  intro al st M cs ss h H locs ls hl hal hst hgr hrel hS
  unfold o_icmp at h
  split at h
  · next y x st0 => exact lv_icmp_lt hx hb hd ht (fun q => kt al st0 M cs ss (h.1 q) H locs ls hl hal (okS.tail (okS.tail hst)) hgr hrel hS) (fun q => kf al st0 M cs ss (h.2 q) H locs ls hl hal (okS.tail (okS.tail hst)) hgr hrel hS)
  · exact h.elim
theorem s_if_ge {Z : ZT} {cc : ByteArray} {own : String} {ret : Option FieldType} {d mc9 ms9 : Nat} {G9 : GT} {Q : Option AV → Mm → Prop} (C : Zok Z cc own ret d G9 mc9 ms9 Q) {pc : Nat} {off : Int} {tgt : Nat} {φt φf : Fm} (hd : decode cc pc = .ok (.ifCond .ge off, 3)) (ht : (pc : Int) + off = (tgt : Int)) (kt : Sd Z φt tgt) (kf : Sd Z φf (pc + 3)) : Sd Z (o_if (fun x => 0 ≤ x) φt φf) pc := by
  obtain ⟨p, e, R, s, m, args, below, meth, c, G, x9, M0, Q', QX, mc, ms⟩ := Z
  obtain ⟨hx, hb, hown, hts, hlk, hr, hG, hR, hQ, rfl, rfl, rfl, hB⟩ := C
  intro al st M cs ss h H locs ls hl hal hst hgr hrel hS
  unfold o_if at h
  split at h
  · next x st0 => exact lv_if_ge hx hb hd ht (fun q => kt al st0 M cs ss (h.1 q) H locs ls hl hal (okS.tail hst) hgr hrel hS) (fun q => kf al st0 M cs ss (h.2 q) H locs ls hl hal (okS.tail hst) hgr hrel hS)
  · exact h.elim
theorem s_icmp_ge {Z : ZT} {cc : ByteArray} {own : String} {ret : Option FieldType} {d mc9 ms9 : Nat} {G9 : GT} {Q : Option AV → Mm → Prop} (C : Zok Z cc own ret d G9 mc9 ms9 Q) {pc : Nat} {off : Int} {tgt : Nat} {φt φf : Fm} (hd : decode cc pc = .ok (.if_icmp .ge off, 3)) (ht : (pc : Int) + off = (tgt : Int)) (kt : Sd Z φt tgt) (kf : Sd Z φf (pc + 3)) : Sd Z (o_icmp (fun x y => y ≤ x) φt φf) pc := by
  obtain ⟨p, e, R, s, m, args, below, meth, c, G, x9, M0, Q', QX, mc, ms⟩ := Z
  obtain ⟨hx, hb, hown, hts, hlk, hr, hG, hR, hQ, rfl, rfl, rfl, hB⟩ := C
  intro al st M cs ss h H locs ls hl hal hst hgr hrel hS
  unfold o_icmp at h
  split at h
  · next y x st0 => exact lv_icmp_ge hx hb hd ht (fun q => kt al st0 M cs ss (h.1 q) H locs ls hl hal (okS.tail (okS.tail hst)) hgr hrel hS) (fun q => kf al st0 M cs ss (h.2 q) H locs ls hl hal (okS.tail (okS.tail hst)) hgr hrel hS)
  · exact h.elim
theorem s_if_gt {Z : ZT} {cc : ByteArray} {own : String} {ret : Option FieldType} {d mc9 ms9 : Nat} {G9 : GT} {Q : Option AV → Mm → Prop} (C : Zok Z cc own ret d G9 mc9 ms9 Q) {pc : Nat} {off : Int} {tgt : Nat} {φt φf : Fm} (hd : decode cc pc = .ok (.ifCond .gt off, 3)) (ht : (pc : Int) + off = (tgt : Int)) (kt : Sd Z φt tgt) (kf : Sd Z φf (pc + 3)) : Sd Z (o_if (fun x => 0 < x) φt φf) pc := by
  obtain ⟨p, e, R, s, m, args, below, meth, c, G, x9, M0, Q', QX, mc, ms⟩ := Z
  obtain ⟨hx, hb, hown, hts, hlk, hr, hG, hR, hQ, rfl, rfl, rfl, hB⟩ := C
  intro al st M cs ss h H locs ls hl hal hst hgr hrel hS
  unfold o_if at h
  split at h
  · next x st0 => exact lv_if_gt hx hb hd ht (fun q => kt al st0 M cs ss (h.1 q) H locs ls hl hal (okS.tail hst) hgr hrel hS) (fun q => kf al st0 M cs ss (h.2 q) H locs ls hl hal (okS.tail hst) hgr hrel hS)
  · exact h.elim
theorem s_icmp_gt {Z : ZT} {cc : ByteArray} {own : String} {ret : Option FieldType} {d mc9 ms9 : Nat} {G9 : GT} {Q : Option AV → Mm → Prop} (C : Zok Z cc own ret d G9 mc9 ms9 Q) {pc : Nat} {off : Int} {tgt : Nat} {φt φf : Fm} (hd : decode cc pc = .ok (.if_icmp .gt off, 3)) (ht : (pc : Int) + off = (tgt : Int)) (kt : Sd Z φt tgt) (kf : Sd Z φf (pc + 3)) : Sd Z (o_icmp (fun x y => y < x) φt φf) pc := by
  obtain ⟨p, e, R, s, m, args, below, meth, c, G, x9, M0, Q', QX, mc, ms⟩ := Z
  obtain ⟨hx, hb, hown, hts, hlk, hr, hG, hR, hQ, rfl, rfl, rfl, hB⟩ := C
  intro al st M cs ss h H locs ls hl hal hst hgr hrel hS
  unfold o_icmp at h
  split at h
  · next y x st0 => exact lv_icmp_gt hx hb hd ht (fun q => kt al st0 M cs ss (h.1 q) H locs ls hl hal (okS.tail (okS.tail hst)) hgr hrel hS) (fun q => kf al st0 M cs ss (h.2 q) H locs ls hl hal (okS.tail (okS.tail hst)) hgr hrel hS)
  · exact h.elim
theorem s_if_le {Z : ZT} {cc : ByteArray} {own : String} {ret : Option FieldType} {d mc9 ms9 : Nat} {G9 : GT} {Q : Option AV → Mm → Prop} (C : Zok Z cc own ret d G9 mc9 ms9 Q) {pc : Nat} {off : Int} {tgt : Nat} {φt φf : Fm} (hd : decode cc pc = .ok (.ifCond .le off, 3)) (ht : (pc : Int) + off = (tgt : Int)) (kt : Sd Z φt tgt) (kf : Sd Z φf (pc + 3)) : Sd Z (o_if (fun x => x ≤ 0) φt φf) pc := by
  obtain ⟨p, e, R, s, m, args, below, meth, c, G, x9, M0, Q', QX, mc, ms⟩ := Z
  obtain ⟨hx, hb, hown, hts, hlk, hr, hG, hR, hQ, rfl, rfl, rfl, hB⟩ := C
  intro al st M cs ss h H locs ls hl hal hst hgr hrel hS
  unfold o_if at h
  split at h
  · next x st0 => exact lv_if_le hx hb hd ht (fun q => kt al st0 M cs ss (h.1 q) H locs ls hl hal (okS.tail hst) hgr hrel hS) (fun q => kf al st0 M cs ss (h.2 q) H locs ls hl hal (okS.tail hst) hgr hrel hS)
  · exact h.elim
theorem s_icmp_le {Z : ZT} {cc : ByteArray} {own : String} {ret : Option FieldType} {d mc9 ms9 : Nat} {G9 : GT} {Q : Option AV → Mm → Prop} (C : Zok Z cc own ret d G9 mc9 ms9 Q) {pc : Nat} {off : Int} {tgt : Nat} {φt φf : Fm} (hd : decode cc pc = .ok (.if_icmp .le off, 3)) (ht : (pc : Int) + off = (tgt : Int)) (kt : Sd Z φt tgt) (kf : Sd Z φf (pc + 3)) : Sd Z (o_icmp (fun x y => x ≤ y) φt φf) pc := by
  obtain ⟨p, e, R, s, m, args, below, meth, c, G, x9, M0, Q', QX, mc, ms⟩ := Z
  obtain ⟨hx, hb, hown, hts, hlk, hr, hG, hR, hQ, rfl, rfl, rfl, hB⟩ := C
  intro al st M cs ss h H locs ls hl hal hst hgr hrel hS
  unfold o_icmp at h
  split at h
  · next y x st0 => exact lv_icmp_le hx hb hd ht (fun q => kt al st0 M cs ss (h.1 q) H locs ls hl hal (okS.tail (okS.tail hst)) hgr hrel hS) (fun q => kf al st0 M cs ss (h.2 q) H locs ls hl hal (okS.tail (okS.tail hst)) hgr hrel hS)
  · exact h.elim
theorem s_if_ne {Z : ZT} {cc : ByteArray} {own : String} {ret : Option FieldType} {d mc9 ms9 : Nat} {G9 : GT} {Q : Option AV → Mm → Prop} (C : Zok Z cc own ret d G9 mc9 ms9 Q) {pc : Nat} {off : Int} {tgt : Nat} {φt φf : Fm} (hd : decode cc pc = .ok (.ifCond .ne off, 3)) (ht : (pc : Int) + off = (tgt : Int)) (kt : Sd Z φt tgt) (kf : Sd Z φf (pc + 3)) : Sd Z (o_if (fun x => x = 0) φf φt) pc := by
  obtain ⟨p, e, R, s, m, args, below, meth, c, G, x9, M0, Q', QX, mc, ms⟩ := Z
  obtain ⟨hx, hb, hown, hts, hlk, hr, hG, hR, hQ, rfl, rfl, rfl, hB⟩ := C
  intro al st M cs ss h H locs ls hl hal hst hgr hrel hS
  unfold o_if at h
  split at h
  · next x st0 => exact lv_if_ne hx hb hd ht (fun q => kt al st0 M cs ss (h.2 q) H locs ls hl hal (okS.tail hst) hgr hrel hS) (fun q => kf al st0 M cs ss (h.1 q) H locs ls hl hal (okS.tail hst) hgr hrel hS)
  · exact h.elim
theorem s_icmp_ne {Z : ZT} {cc : ByteArray} {own : String} {ret : Option FieldType} {d mc9 ms9 : Nat} {G9 : GT} {Q : Option AV → Mm → Prop} (C : Zok Z cc own ret d G9 mc9 ms9 Q) {pc : Nat} {off : Int} {tgt : Nat} {φt φf : Fm} (hd : decode cc pc = .ok (.if_icmp .ne off, 3)) (ht : (pc : Int) + off = (tgt : Int)) (kt : Sd Z φt tgt) (kf : Sd Z φf (pc + 3)) : Sd Z (o_icmp (fun x y => x = y) φf φt) pc := by
  obtain ⟨p, e, R, s, m, args, below, meth, c, G, x9, M0, Q', QX, mc, ms⟩ := Z
  obtain ⟨hx, hb, hown, hts, hlk, hr, hG, hR, hQ, rfl, rfl, rfl, hB⟩ := C
  intro al st M cs ss h H locs ls hl hal hst hgr hrel hS
  unfold o_icmp at h
  split at h
  · next y x st0 => exact lv_icmp_ne hx hb hd ht (fun q => kt al st0 M cs ss (h.2 q) H locs ls hl hal (okS.tail (okS.tail hst)) hgr hrel hS) (fun q => kf al st0 M cs ss (h.1 q) H locs ls hl hal (okS.tail (okS.tail hst)) hgr hrel hS)
  · exact h.elim
theorem s_goto {Z : ZT} {cc : ByteArray} {own : String} {ret : Option FieldType} {d mc9 ms9 : Nat} {G9 : GT} {Q : Option AV → Mm → Prop} (C : Zok Z cc own ret d G9 mc9 ms9 Q) {pc : Nat} {off : Int} {tgt : Nat} {φ : Fm} (hd : decode cc pc = .ok (.goto off, 3)) (ht : (pc : Int) + off = (tgt : Int)) (k : Sd Z φ tgt) : Sd Z φ pc := by
  obtain ⟨p, e, R, s, m, args, below, meth, c, G, x9, M0, Q', QX, mc, ms⟩ := Z
  obtain ⟨hx, hb, hown, hts, hlk, hr, hG, hR, hQ, rfl, rfl, rfl, hB⟩ := C
  intro al st M cs ss h H locs ls hl hal hst hgr hrel hS
  exact lv_goto hx hb hd ht (k al st M cs ss h H locs ls hl hal hst hgr hrel hS)
def o_ifnull (φt φf : Fm) : Fm := fun al st M cs ss => match st with
  | Sum.inr (Sum.inr none) :: st => φt al st M cs ss
  | Sum.inr (Sum.inr (some _)) :: st => φf al st M cs ss
  | _ => False
theorem s_ifnull {Z : ZT} {cc : ByteArray} {own : String} {ret : Option FieldType} {d mc9 ms9 : Nat} {G9 : GT} {Q : Option AV → Mm → Prop} (C : Zok Z cc own ret d G9 mc9 ms9 Q) {pc : Nat} {off : Int} {tgt : Nat} {φt φf : Fm} (hd : decode cc pc = .ok (.ifnull off, 3)) (ht : (pc : Int) + off = (tgt : Int)) (kt : Sd Z φt tgt) (kf : Sd Z φf (pc + 3)) : Sd Z (o_ifnull φt φf) pc := by
  obtain ⟨p, e, R, s, m, args, below, meth, c, G, x9, M0, Q', QX, mc, ms⟩ := Z
  obtain ⟨hx, hb, hown, hts, hlk, hr, hG, hR, hQ, rfl, rfl, rfl, hB⟩ := C
  intro al st M cs ss h H locs ls hl hal hst hgr hrel hS
  unfold o_ifnull at h
  split at h
  · next st0 => exact lv_ifnullN hx hb hd ht (kt al st0 M cs ss h H locs ls hl hal (okS.tail hst) hgr hrel hS)
  · next q st0 => exact lv_ifnull hx hb hd (kf al st0 M cs ss h H locs ls hl hal (okS.tail hst) hgr hrel hS)
  · exact h.elim
theorem s_ifnonnull {Z : ZT} {cc : ByteArray} {own : String} {ret : Option FieldType} {d mc9 ms9 : Nat} {G9 : GT} {Q : Option AV → Mm → Prop} (C : Zok Z cc own ret d G9 mc9 ms9 Q) {pc : Nat} {off : Int} {tgt : Nat} {φt φf : Fm} (hd : decode cc pc = .ok (.ifnonnull off, 3)) (ht : (pc : Int) + off = (tgt : Int)) (kt : Sd Z φt tgt) (kf : Sd Z φf (pc + 3)) : Sd Z (o_ifnull φf φt) pc := by
  obtain ⟨p, e, R, s, m, args, below, meth, c, G, x9, M0, Q', QX, mc, ms⟩ := Z
  obtain ⟨hx, hb, hown, hts, hlk, hr, hG, hR, hQ, rfl, rfl, rfl, hB⟩ := C
  intro al st M cs ss h H locs ls hl hal hst hgr hrel hS
  unfold o_ifnull at h
  split at h
  · next st0 => exact lv_ifnonnullN hx hb hd (kf al st0 M cs ss h H locs ls hl hal (okS.tail hst) hgr hrel hS)
  · next q st0 => exact lv_ifnonnull hx hb hd ht (kt al st0 M cs ss h H locs ls hl hal (okS.tail hst) hgr hrel hS)
  · exact h.elim
def swF (x : Int32) (φd : Prop) : List (Int32 × Prop) → Prop
  | [] => φd
  | q :: l => (x = q.1 → q.2) ∧ (¬ x = q.1 → swF x φd l)
def o_sw (ks : List (Int32 × Fm)) (φd : Fm) : Fm := fun al st M cs ss => match st with
  | Sum.inl x :: st => swF x (φd al st M cs ss) (ks.map (fun q => (q.1, q.2 al st M cs ss)))
  | _ => False
theorem swF_get {α : Type} {x : Int32} {D : Prop} {f : α → Int32 × Prop} : ∀ {l : List α}, swF x D (l.map f) → (∃ q ∈ l, x = (f q).1 ∧ (f q).2) ∨ ((∀ q ∈ l, ¬ x = (f q).1) ∧ D)
  | [], h => Or.inr ⟨fun _ hq => absurd hq List.not_mem_nil, h⟩
  | q :: l, h => by
    by_cases e : x = (f q).1
    · exact Or.inl ⟨q, List.mem_cons_self, e, h.1 e⟩
    · rcases swF_get (l := l) (h.2 e) with ⟨r, h1, h2⟩ | ⟨h1, h2⟩
      · exact Or.inl ⟨r, List.mem_cons_of_mem _ h1, h2⟩
      · refine Or.inr ⟨fun r hr => ?_, h2⟩
        rcases List.mem_cons.mp hr with e2 | e2
        · rw [e2]; exact e
        · exact h1 r e2
theorem s_tsw {Z : ZT} {cc : ByteArray} {own : String} {ret : Option FieldType} {d mc9 ms9 : Nat} {G9 : GT} {Q : Option AV → Mm → Prop} (C : Zok Z cc own ret d G9 mc9 ms9 Q) {pc : Nat} {dflt lo hi : Int} {offs : Array Int} {len td : Nat} {ks : List (Int32 × Fm)} {φd : Fm} (hd : decode cc pc = .ok (.tableswitch dflt lo hi offs, len)) (htd : (pc : Int) + dflt = (td : Int)) (hdom : ∀ x : Int32, (∀ q ∈ ks, ¬ x = q.1) → x.toInt < lo ∨ hi < x.toInt)
    (hks : ∀ q ∈ ks, ∃ (off : Int) (tgt : Nat), ¬ q.1.toInt < lo ∧ ¬ hi < q.1.toInt ∧ offs[(q.1.toInt - lo).toNat]? = some off ∧ (pc : Int) + off = (tgt : Int) ∧ Sd Z q.2 tgt) (kd9 : Sd Z φd td) : Sd Z (o_sw ks φd) pc := by
  obtain ⟨p, e, R, s, m, args, below, meth, c, G, x9, M0, Q', QX, mc, ms⟩ := Z
  obtain ⟨hx, hb, hown, hts, hlk, hr, hG, hR, hQ, rfl, rfl, rfl, hB⟩ := C
  intro al st M cs ss h H locs ls hl hal hst hgr hrel hS
  unfold o_sw at h
  split at h
  · next x st0 =>
    rcases swF_get h with ⟨q, h1, h2, h3⟩ | ⟨h1, h2⟩
    · obtain ⟨off, tgt, a1, a2, a3, a4, a5⟩ := hks q h1
      dsimp only at h2
      rw [← h2] at a1 a2 a3
      exact lv_tableIn hx hb hd a1 a2 a3 a4 (a5 al st0 M cs ss h3 H locs ls hl hal (okS.tail hst) hgr hrel hS)
    · exact lv_tableOut hx hb hd (hdom x h1) htd (kd9 al st0 M cs ss h2 H locs ls hl hal (okS.tail hst) hgr hrel hS)
  · exact h.elim
theorem s_lsw {Z : ZT} {cc : ByteArray} {own : String} {ret : Option FieldType} {d mc9 ms9 : Nat} {G9 : GT} {Q : Option AV → Mm → Prop} (C : Zok Z cc own ret d G9 mc9 ms9 Q) {pc : Nat} {dflt : Int} {ps : Array (Int × Int)} {len td : Nat} {ks : List (Int32 × Fm)} {φd : Fm} (hd : decode cc pc = .ok (.lookupswitch dflt ps, len)) (hp : (ps.toList.zip (ps.toList.drop 1)).all (fun (a, next) => a.1 < next.1) = true) (htd : (pc : Int) + dflt = (td : Int)) (hdom : ∀ x : Int32, (∀ q ∈ ks, ¬ x = q.1) → Op.lookupswitch.offset ps.toList dflt x.toInt = dflt)
    (hks : ∀ q ∈ ks, ∃ (off : Int) (tgt : Nat), Op.lookupswitch.offset ps.toList dflt q.1.toInt = off ∧ (pc : Int) + off = (tgt : Int) ∧ Sd Z q.2 tgt) (kd9 : Sd Z φd td) : Sd Z (o_sw ks φd) pc := by
  obtain ⟨p, e, R, s, m, args, below, meth, c, G, x9, M0, Q', QX, mc, ms⟩ := Z
  obtain ⟨hx, hb, hown, hts, hlk, hr, hG, hR, hQ, rfl, rfl, rfl, hB⟩ := C
  intro al st M cs ss h H locs ls hl hal hst hgr hrel hS
  unfold o_sw at h
  split at h
  · next x st0 =>
    rcases swF_get h with ⟨q, h1, h2, h3⟩ | ⟨h1, h2⟩
    · obtain ⟨off, tgt, a1, a2, a3⟩ := hks q h1
      dsimp only at h2
      rw [← h2] at a1
      exact lv_lookup hx hb hd hp a1 a2 (a3 al st0 M cs ss h3 H locs ls hl hal (okS.tail hst) hgr hrel hS)
    · exact lv_lookup hx hb hd hp (hdom x h1) htd (kd9 al st0 M cs ss h2 H locs ls hl hal (okS.tail hst) hgr hrel hS)
  · exact h.elim
