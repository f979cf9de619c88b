/-! # core, 6: returns, contracts, calls -/
abbrev Qi (P : Int32 → Mm → Prop) : Option AV → Mm → Prop := fun r M => ∃ z, r = some (vI z) ∧ P z M
abbrev Ql (P : Int64 → Mm → Prop) : Option AV → Mm → Prop := fun r M => ∃ z, r = some (vL z) ∧ P z M
abbrev Qv (P : Mm → Prop) : Option AV → Mm → Prop := fun r M => r = none ∧ P M
abbrev Qr (k n : Nat) (P : Nat → Mm → Prop) : Option AV → Mm → Prop := fun r M => ∃ a, r = some (vR a k n) ∧ P a M
/-- a method: its name, code, locals, what it returns -/
abbrev MD : Type := MethodName × ByteArray × Nat × Option FieldType
/-- the object that is made, what may be thrown; no handlers -/
def Zx (Z : ZT) (x : Option Nat) (M0 : Mm) (QX : Nat → Mm → Prop) : Prop := match Z with
  | (_, _, _, _, _, _, _, _, c, _, x', M', _, QX', _, _) => x' = x ∧ M' = M0 ∧ QX' = QX ∧ ∀ z ∈ c.exceptionTable.toList, False
def CT (G : GT) (x : Option Nat) (d mc ms : Nat) (q : MD) (avs : List AV) (M : Mm) (Q : Option AV → Mm → Prop) : Prop :=
  Met (gl G) q.1 (Cond.code q.1 q.2.1 q.2.2.1 q.2.2.2 :: gtb) (rmd d mc ms) (PcA G avs M) (QcA G x M Q) mc ms (gAb G)
def CTX (G : GT) (x : Option Nat) (d mc ms : Nat) (q : MD) (avs : List AV) (M : Mm) (Q : Option AV → Mm → Prop) (QX : Nat → Mm → Prop) : Prop :=
  vx_Met (gl G) q.1 (Cond.code q.1 q.2.1 q.2.2.1 q.2.2.2 :: gtb) (rmd d mc ms) (PcA G avs M) (QcA G x M Q) (XcA G x M QX) mc ms (gAb G)
def al0 (avs : List AV) (n : Nat) : LA := avs.map some ++ List.replicate (n - avs.length) none
theorem lg_sl_1 : ∀ {vs : List AV}, (∀ v ∈ vs, isLg (some v) = false) → lg_sl (vs.map cv) = vs.map (fun v => Slot.val (cv v))
  | [], _ => rfl
  | v :: vs, h => by
    have e : (cv v).category = 1 := cv_cat1 (h v List.mem_cons_self)
    have ih := lg_sl_1 (vs := vs) (fun w hw => h w (List.mem_cons_of_mem _ hw))
    unfold lg_sl at ih ⊢
    rw [List.map_cons, List.flatMap_cons, ih, e]
    rfl
/-- what is known of a method -/
def MOk (q : MD) (n : Nat) : Prop := Cond.code q.1 q.2.1 q.2.2.1 q.2.2.2 ∈ lw_tbl ∧ Cond.initialized q.1.cls ∈ lw_tbl ∧ plainName q.1.cls = true ∧ (q.1.cls ≠ "java/lang/invoke/MethodHandle" ∧ q.1.cls ≠ "java/lang/invoke/VarHandle") ∧ (parseMethodDescriptor q.1.desc).map (fun d => d.parameters.length) = some n ∧ q.2.2.1 ≤ 21
theorem CTX.of {G : GT} {x : Option Nat} {d mc ms n : Nat} {q : MD} {avs : List AV} {M : Mm} {Q : Option AV → Mm → Prop} {QX : Nat → Mm → Prop} (hm : MOk q n) (hlg : ∀ v ∈ avs, isLg (some v) = false) (hlen : avs.length ≤ q.2.2.1)
    (body : ∀ Z : ZT, Zok Z q.2.1 q.1.cls q.2.2.2 d G mc ms Q → Zml Z = q.2.2.1 → (q.1.name = "<init>" → Zin Z = true) → Zx Z x M QX → Wm Z 0 (al0 avs q.2.2.1) [] M 0 0) : CTX G x d mc ms q avs M Q QX := by
  obtain ⟨h1, h2, h3, h4, h5, h6⟩ := hm
  refine vx_ofW (cc := q.2.1) (maxL := q.2.2.1) (ret := q.2.2.2) h3 rfl ?_
  intro p e s m args below meth c s₁ B hml hno hv
  obtain ⟨rfl, hG, hrel, hok⟩ := hv
  have hts := atoms_spec (ws := Cond.code q.1 q.2.1 q.2.2.1 q.2.2.2 :: gtb) B.pre
  have hown : s.vm.findClass q.1.cls = some m.cls := findClass_of_methodNamed B.named
  have hb := body (p, e, rmd d mc ms, s, m, (avs.map cv).toArray, below, meth, c, G, x, M, Q, QX, mc, ms) ⟨B.exec, B.bytes, hown, fun w hw => hts w (List.mem_cons_of_mem _ hw), B.notSynchronized, B.returns, hG, Rok.rf d mc ms, rfl, rfl, rfl, rfl, hrel.2.1⟩ hml
    (fun e0 => decide_eq_true ((name_of_methodNamed B.named B.method).1.trans e0)) ⟨rfl, rfl, rfl, hno⟩
  rw [lg_entry_eq]
  have hl := lv_entry (avs.map cv) (n := q.2.2.1) (by rw [lg_sl_1 hlg, List.length_map]; exact hlen)
  have hLR : LR (lg_sl (avs.map cv) ++ List.replicate (q.2.2.1 - (lg_sl (avs.map cv)).length) Slot.unset).toArray c.maxLocals (al0 avs q.2.2.1) := by
    refine ⟨by rw [hml]; exact hl.1, hl.2.1, fun i v hi => ?_⟩
    unfold al0 at hi
    by_cases hlt : i < avs.length
    · rw [List.getElem?_append_left (by rw [List.length_map]; exact hlt), List.getElem?_map] at hi
      rw [lg_sl_1 hlg, List.getElem?_toArray, List.getElem?_append_left (by rw [List.length_map]; exact hlt), List.getElem?_map]
      cases hv : avs[i]? with
      | none => rw [hv] at hi; cases hi
      | some w => rw [hv] at hi; cases hi; rfl
    · rw [List.getElem?_append_right (by rw [List.length_map]; omega), List.getElem?_replicate] at hi
      split at hi
      · cases hi
      · cases hi
  have hokL : okL G M (al0 avs q.2.2.1) := by
    intro v hv
    unfold al0 at hv
    rcases List.mem_append.mp hv with h | h
    · obtain ⟨w, hw, e0⟩ := List.mem_map.mp h
      cases e0; exact hok v hw
    · exact absurd (List.mem_replicate.mp h).2 (fun z => nomatch z)
  exact hb s.heap [] _ hLR hokL (fun v hv => absurd hv List.not_mem_nil) ⟨Grow.rf x M, Nat.zero_le _, Nat.zero_le _⟩ hrel va_S.rf
theorem CT.ofX {G : GT} {x : Option Nat} {d mc ms : Nat} {q : MD} {avs : List AV} {M : Mm} {Q : Option AV → Mm → Prop} (h : CTX G x d mc ms q avs M Q (fun _ _ => False)) : CT G x d mc ms q avs M Q := by
  intro p e ha hc hk s m args below hf happ hP hK
  obtain ⟨n, o, h1, h2, h3, h4⟩ := h p e ha hc hk s m args below hf happ hP hK
  refine ⟨n, o, h1, h2, h3, ?_⟩
  rcases h4 with h5 | ⟨q9, -, E, ce9, L, ⟨k, M', -, hF, -⟩, -⟩
  · exact h5
  · exact hF.elim
theorem CT.of {G : GT} {x : Option Nat} {d mc ms n : Nat} {q : MD} {avs : List AV} {M : Mm} {Q : Option AV → Mm → Prop} (hm : MOk q n) (hlg : ∀ v ∈ avs, isLg (some v) = false) (hlen : avs.length ≤ q.2.2.1)
    (body : ∀ Z : ZT, Zok Z q.2.1 q.1.cls q.2.2.2 d G mc ms Q → Zml Z = q.2.2.1 → (q.1.name = "<init>" → Zin Z = true) → Zx Z x M (fun _ _ => False) → Wm Z 0 (al0 avs q.2.2.1) [] M 0 0) : CT G x d mc ms q avs M Q := CT.ofX (CTX.of hm hlg hlen body)
/-! ## returns -/
def o_iret (P : Int32 → Mm → Prop) : Fm := fun _ st M _ _ => match st with
  | [Sum.inl v] => P v M
  | _ => False
def o_zret (P : Int32 → Mm → Prop) : Fm := fun _ st M _ _ => match st with
  | [Sum.inl v] => (v = 0 ∨ v = 1) ∧ P v M
  | _ => False
def o_lret (P : Int64 → Mm → Prop) : Fm := fun _ st M _ _ => match st with
  | [Sum.inr (Sum.inl v)] => P v M
  | _ => False
def o_ret (P : Mm → Prop) : Fm := fun _ st M _ _ => match st with
  | [] => P M
  | _ => False
def o_aret (k n : Nat) (P : Nat → Mm → Prop) : Fm := fun _ st M _ _ => match st with
  | [Sum.inr (Sum.inr (some (a, k9, n9)))] => cond (Nat.beq k9 k && Nat.beq n9 n) (P a M) False
  | _ => False
section Rets
variable {Z : ZT} {cc : ByteArray} {own : String} {d mc9 ms9 pc : Nat} {G9 : GT}
theorem s_iret {P : Int32 → Mm → Prop} (C : Zok Z cc own (some .int) d G9 mc9 ms9 (Qi P)) (hd : decode cc pc = .ok (.ireturn, 1)) : Sd Z (o_iret P) pc := by
  obtain ⟨p, e, R, s, m, args, below, meth, c, G, x9, M0, Q', QX, mc, ms⟩ := Z
  obtain ⟨hx, hb, hown, hts, hlk, hr, hG, hR, rfl, rfl, rfl, rfl, hB⟩ := C
  intro al st M cs ss h H locs ls hl hal hst hgr hrel hS
  unfold o_iret at h
  split at h
  · next v =>
    refine W.widen hgr.2.1 hgr.2.2 (vx_ret ?_)
    exact W.iret (v := v) hx hb hr (fun t ht hW => ⟨some (vI v), M, rfl, ⟨v, rfl, h⟩, fun w hw => by cases hw; trivial, hgr.1, by rw [ht]; exact hrel, hS.F ht⟩) hS.2.2 hd hlk
  · exact h.elim
theorem s_zret {P : Int32 → Mm → Prop} (C : Zok Z cc own (some .boolean) d G9 mc9 ms9 (Qi P)) (hd : decode cc pc = .ok (.ireturn, 1)) : Sd Z (o_zret P) pc := by
  obtain ⟨p, e, R, s, m, args, below, meth, c, G, x9, M0, Q', QX, mc, ms⟩ := Z
  obtain ⟨hx, hb, hown, hts, hlk, hr, hG, hR, rfl, rfl, rfl, rfl, hB⟩ := C
  intro al st M cs ss h H locs ls hl hal hst hgr hrel hS
  unfold o_zret at h
  split at h
  · next v =>
    refine W.widen hgr.2.1 hgr.2.2 (vx_ret ?_)
    exact W.zret (v := v) hx hb hr (by rcases h.1 with rfl | rfl <;> decide) (fun t ht hW => ⟨some (vI v), M, rfl, ⟨v, rfl, h.2⟩, fun w hw => by cases hw; trivial, hgr.1, by rw [ht]; exact hrel, hS.F ht⟩) hS.2.2 hd hlk
  · exact h.elim
theorem s_lret {P : Int64 → Mm → Prop} (C : Zok Z cc own (some .long) d G9 mc9 ms9 (Ql P)) (hd : decode cc pc = .ok (.lreturn, 1)) : Sd Z (o_lret P) pc := by
  obtain ⟨p, e, R, s, m, args, below, meth, c, G, x9, M0, Q', QX, mc, ms⟩ := Z
  obtain ⟨hx, hb, hown, hts, hlk, hr, hG, hR, rfl, rfl, rfl, rfl, hB⟩ := C
  intro al st M cs ss h H locs ls hl hal hst hgr hrel hS
  unfold o_lret at h
  split at h
  · next v =>
    refine W.widen hgr.2.1 hgr.2.2 (vx_ret ?_)
    exact W.lret (v := v) hx hb hr (fun t ht hW => ⟨some (vL v), M, rfl, ⟨v, rfl, h⟩, fun w hw => by cases hw; trivial, hgr.1, by rw [ht]; exact hrel, hS.F ht⟩) hS.2.2 hd hlk
  · exact h.elim
theorem s_ret {P : Mm → Prop} (C : Zok Z cc own none d G9 mc9 ms9 (Qv P)) (hd : decode cc pc = .ok (.return_, 1)) : Sd Z (o_ret P) pc := by
  obtain ⟨p, e, R, s, m, args, below, meth, c, G, x9, M0, Q', QX, mc, ms⟩ := Z
  obtain ⟨hx, hb, hown, hts, hlk, hr, hG, hR, rfl, rfl, rfl, rfl, hB⟩ := C
  intro al st M cs ss h H locs ls hl hal hst hgr hrel hS
  unfold o_ret at h
  split at h
  · refine W.widen hgr.2.1 hgr.2.2 (vx_ret ?_)
    exact W.vret hx hb hr (fun t ht hW => ⟨none, M, rfl, ⟨rfl, h⟩, fun w hw => (by cases hw), hgr.1, by rw [ht]; exact hrel, hS.F ht⟩) hS.2.2 hd hlk
  · exact h.elim
theorem s_aret {k n : Nat} {nm : String} {P : Nat → Mm → Prop} (C : Zok Z cc own (some (.object nm)) d G9 mc9 ms9 (Qr k n P)) (hd : decode cc pc = .ok (.areturn, 1)) : Sd Z (o_aret k n P) pc := by
  obtain ⟨p, e, R, s, m, args, below, meth, c, G, x9, M0, Q', QX, mc, ms⟩ := Z
  obtain ⟨hx, hb, hown, hts, hlk, hr, hG, hR, rfl, rfl, rfl, rfl, hB⟩ := C
  intro al st M cs ss h H locs ls hl hal hst hgr hrel hS
  unfold o_aret at h
  split at h
  · next a k9 n9 =>
    cases hk9 : (Nat.beq k9 k && Nat.beq n9 n) with
    | false => rw [hk9] at h; exact h.elim
    | true =>
      rw [hk9] at h
      have e1 := Nat.eq_of_beq_eq_true (Bool.and_eq_true_iff.mp hk9).1
      have e2 := Nat.eq_of_beq_eq_true (Bool.and_eq_true_iff.mp hk9).2
      subst e1; subst e2
      refine W.widen hgr.2.1 hgr.2.2 (vx_ret ?_)
      exact W.aret (v := .ref a) hx hb hr (Or.inl ⟨nm, rfl⟩) (Or.inr ⟨a, rfl⟩) (fun t ht hW => ⟨some (vR a k9 n9), M, rfl, ⟨a, rfl, h⟩, fun w hw => by cases hw; exact okS.head hst, hgr.1, by rw [ht]; exact hrel, hS.F ht⟩) hS.2.2 hd hlk
  · exact h.elim
end Rets
