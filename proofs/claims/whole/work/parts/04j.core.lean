/-! # core, 9: constructors: Object's own, calls, and the view of a finished object -/
theorem s_obj {Z : ZT} {cc : ByteArray} {own : String} {ret : Option FieldType} {d mc9 ms9 : Nat} {G9 : GT} {Q : Option AV → Mm → Prop} (C : Zok Z cc own ret d G9 mc9 ms9 Q) {pc : Nat} {idx : Nat} {φ : Fm} (hd : decode cc pc = .ok (.invokespecial idx, 3)) (hl1 : Cond.methodLink own idx Lib.objectInit ∈ lw_tbl) (hl2 : Cond.instanceMethod Lib.objectInit ∈ lw_tbl) (hl3 : Cond.code Lib.objectInit ⟨#[0xb1]⟩ 1 none ∈ lw_tbl) (hd1 : 1 ≤ d) (k : Sd Z φ (pc + 3)) :
    Sd Z (fun al st M cs ss => match st with
      | Sum.inr (Sum.inr (some _)) :: st => cond (sl8 st) (φ al st M cs ss) False
      | _ => False) pc := by
  obtain ⟨p, e, R, s, m, args, below, meth, c, G, x9, M0, Q', QX, mc, ms⟩ := Z
  obtain ⟨hx, hb, hown, hts, hlk, hr, hG, hR, hQ, rfl, rfl, rfl, hB⟩ := C
  intro al st M cs ss h H locs ls hl hal hst hgr hrel hS
  split at h
  · next q st0 =>
    cases hc : sl8 st0 with
    | false => rw [hc] at h; exact h.elim
    | true =>
      rw [hc] at h
      have hcat := cat8 hc
      exact W.objInit hx hb hown (hts _ (gtb_in hl1 rfl)) (hts _ (gtb_in hl2 rfl)) (hts _ (gtb_in hl3 rfl)) rfl hl.1 (g := F0 m pc ls (.ref q.1 :: st0.map cv)) rfl hd (Nat.le_trans hd1 hR.1) (by have := hR.2.1; show 2 * 0 + _ + 12 ≤ R.locals; omega) (k al st0 M cs ss h H locs ls hl hal (okS.tail hst) hgr hrel hS)
  · exact h.elim
/-- no reference of a kind -/
def noK (k : Nat) (v : AV) : Bool := match v with
  | Sum.inr (Sum.inr (some (_, k9, _))) => !(Nat.beq k9 k)
  | _ => true
def noKL (k : Nat) (v : Option AV) : Bool := match v with
  | some w => noK k w
  | none => true
theorem okV.growx {G : GT} {M M' : Mm} {v : AV} {b k : Nat} (hg : Grow (some b) M M') (hb : kd M b = (k, 0)) (hv : noK k v = true) (h : okV G M v) : okV G M' v := by
  rcases v with x | x | _ | q
  · trivial
  · trivial
  · trivial
  · simp only [okV] at h ⊢
    split at h
    · next h1 => rw [if_pos h1]; exact h
    · next h1 =>
      rw [if_neg h1]
      split at h
      · next h2 => rw [if_pos h2]; exact h
      · next h2 =>
        rw [if_neg h2]
        split at h
        · next h3 => rw [if_pos h3]; trivial
        · next h3 =>
          rw [if_neg h3]
          have hne : q.1 ≠ b := by
            intro e
            have e1 := h.1
            rw [e, hb] at e1
            have e2 : q.2.1 = k := by rw [← e1]
            unfold noK at hv
            dsimp only at hv
            rw [e2] at hv
            simp at hv
          exact ⟨by rw [hg.2 q.1 (by rw [h.1]; exact h.2) (fun e => hne (Option.some.inj e).symm)]; exact h.1, h.2⟩
def o_cI (M0 : Mm) (K : Nat → List AV → Mm → (Option AV → Mm → Prop) → Prop) (n kr kf mc ms mc2 ms2 : Nat) (φ : Fm) : Fm := fun al st M cs ss => match st.drop n with
  | Sum.inr (Sum.inr (some (b, k9, n9))) :: Sum.inr (Sum.inr (some (b2, k8, n8))) :: rest => cond (Nat.beq k9 kr && Nat.beq n9 0 && Nat.beq k8 kr && Nat.beq n8 0 && sl8 (vN :: rest) && Nat.ble n st.length && rest.all (noK kr) && al.all (noKL kr))
      ((b2 = b ∧ (kd M0 b).1 = 0) ∧ need mc2 ms2 cs ss mc ms (∃ P : Mm → Prop, K b (vR b k9 n9 :: (st.take n).reverse) M (Qv P) ∧ ∀ (M' : Mm), P M' → kd M' b = (kf, 0) ∧ φ al (vR b kf 0 :: rest) M' (cs + mc2) (ss + ms2))) False
  | _ => False
theorem s_cI {Z : ZT} {cc : ByteArray} {own : String} {ret : Option FieldType} {d mc9 ms9 : Nat} {G9 : GT} {Q : Option AV → Mm → Prop} (C : Zok Z cc own ret d G9 mc9 ms9 Q) {pc : Nat} {n kr kf index mc2 ms2 : Nat} {q : MD} {φ : Fm} (hd : decode cc pc = .ok (.invokespecial index, 3)) (hm : MOk q n) (hV : MI q) (L : LkM own index q.1) (hkr : memK kr = true) (hkf : memK kf = true) (hd1 : 1 ≤ d) {x8 : Option Nat} {M8 : Mm} {QX8 : Nat → Mm → Prop} (hz : Zx Z x8 M8 QX8) (k : Sd Z φ (pc + 3)) : Sd Z (o_cI M8 (fun b avs M Q2 => CT G9 (some b) (d - 1) mc2 ms2 q avs M Q2) n kr kf mc9 ms9 mc2 ms2 φ) pc := by
  obtain ⟨p, e, R, s, m, args, below, meth, c, G, x9, M0, Q', QX, mc, ms⟩ := Z
  obtain ⟨hx, hb, hown, hts, hlk, hr, hG, hR, hQ, rfl, rfl, rfl, hB⟩ := C
  intro al st M cs ss h H locs ls hl hal hst hgr hrel hS
  unfold o_cI at h
  split at h
  · next b k9 n9 b2 k8 n8 rest hdrop =>
    cases hc9 : (Nat.beq k9 kr && Nat.beq n9 0 && Nat.beq k8 kr && Nat.beq n8 0 && sl8 (vN :: rest) && Nat.ble n st.length && rest.all (noK kr) && al.all (noKL kr)) with
    | false => rw [hc9] at h; exact h.elim
    | true =>
      rw [hc9] at h
      simp only [Bool.and_eq_true] at hc9
      obtain ⟨⟨⟨⟨⟨⟨⟨c1, c2⟩, c3⟩, c4⟩, c5⟩, c6⟩, c7⟩, c8⟩ := hc9
      have e1 := Nat.eq_of_beq_eq_true c1
      have e2 := Nat.eq_of_beq_eq_true c2
      have e3 := Nat.eq_of_beq_eq_true c3
      have e4 := Nat.eq_of_beq_eq_true c4
      subst e1; subst e2; subst e3; subst e4
      obtain ⟨⟨rfl, hfr⟩, h⟩ := h
      have hM8 : M0 = M8 := hz.2.1
      rw [← hM8] at hfr
      obtain ⟨hnd, P, h2, h3⟩ := h.to hgr.2.1 hgr.2.2
      have hdr := hst.drop n
      rw [hdrop] at hdr
      have hmr := memK_ne hkr
      have hmf := memK_ne hkf
      have hkd := (okS.head hdr).ref hmr.2.1 hmr.2.2.1 hmr.2.2.2
      have hrs := okS.tail (okS.tail hdr)
      have hml : ls.size = c.maxLocals := hl.1
      have e0 : st.map cv = (((st.take n).reverse).map cv).reverse ++ .ref b2 :: (vR b2 k8 0 :: rest).map cv := by rw [st_split st n, hdrop]; rfl
      rw [e0]
      refine W_callI hx hb hown hts hG hR hm hV L h2 rfl (by rw [List.length_reverse, List.length_take]; have := Nat.le_of_ble_eq_true c6; omega) hrel (okS.cons (okS.head hdr) (hst.take n)) hS hd1 (cat8 (st := vR b2 k8 0 :: rest) c5) hml hd hnd fun r M1 H1 locs1 hq hok1 hg1 hrel1 hS1 => ?_
      obtain ⟨rfl, hP⟩ := hq
      obtain ⟨h4, h5⟩ := h3 M1 hP
      refine k al (vR b2 kf 0 :: rest) M1 _ _ h5 H1 locs1 ls hl (fun v hv => ?_) (okS.cons (okV.mk h4 hmf.1 hmf.2.1 hmf.2.2.1 hmf.2.2.2) (fun v hv => ?_)) ⟨?_, hnd⟩ hrel1 hS1
      · exact okV.growx hg1 hkd.1 (List.all_eq_true.mp c8 (some v) hv) (hal v hv)
      · exact okV.growx hg1 hkd.1 (List.all_eq_true.mp c7 v hv) (hrs v hv)
      · refine ⟨Nat.le_trans hgr.1.1 hg1.1, fun b9 h0 hx9 => ?_⟩
        have hb9 := hgr.1.2 b9 h0 hx9
        by_cases eb : b9 = b2
        · subst eb
          exact absurd hfr h0
        · rw [hg1.2 b9 (by rw [hb9]; exact h0) (fun z => eb (Option.some.inj z).symm)]; exact hb9
  · exact h.elim
theorem ft_ok : ∀ l ∈ ftF, ∀ t ∈ l, (t.1 = 1 → 0 < t.2.1) ∧ ((t.1 = 1 ∨ t.1 = 2) → (t.2.2.1 ≤ 200 ∨ 1000 ≤ t.2.2.1)) ∧ t.1 ≤ 2 := by decide +kernel
theorem ftb_ok {k : Nat} : ∀ t ∈ ftb k, (t.1 = 1 → 0 < t.2.1) ∧ ((t.1 = 1 ∨ t.1 = 2) → (t.2.2.1 ≤ 200 ∨ 1000 ≤ t.2.2.1)) := by
  have h1 : ∀ i, ∀ t ∈ ftF.getD i [], (t.1 = 1 → 0 < t.2.1) ∧ ((t.1 = 1 ∨ t.1 = 2) → (t.2.2.1 ≤ 200 ∨ 1000 ≤ t.2.2.1)) := by
    intro i t ht
    rw [List.getD_eq_getElem?_getD] at ht
    cases e : ftF[i]? with
    | none => rw [e] at ht; exact absurd ht List.not_mem_nil
    | some l => rw [e] at ht; have := ft_ok l (List.mem_of_getElem? e) t ht; exact ⟨this.1, this.2.1⟩
  intro t ht
  unfold ftb at ht
  split at ht
  · obtain ⟨t0, h0, e0⟩ := List.mem_map.mp ht
    have := h1 _ t0 h0
    by_cases e : t0.1 = 1
    · rw [if_pos e] at e0; rw [← e0]; exact ⟨fun z => (by cases z), fun _ => this.2 (Or.inl e)⟩
    · rw [if_neg e] at e0; rw [← e0]; exact this
  · exact h1 _ t ht
theorem kd_sK (M : Mm) (a k b : Nat) : kd (sK M a k) b = if b = a then (k, 0) else kd M b := rfl
/-- an object whose fields are laid is a finished one -/
theorem Rel.view {G : GT} {M : Mm} {H : Heap} {a kf : Nat} (h : Rel G M H) (hkf : 0 < kf ∧ kf < 14) (hk : kd M a = (kf + 200, 0)) (hfx : ∀ (j : Nat) (t : Nat × Nat × Nat × Nat), (ftb kf)[j]? = some t → t.1 = 1 → gR M a j = some (a + t.2.1) ∧ kd M (a + t.2.1) = (t.2.2.1, t.2.2.2)) : Rel G (sK M a kf) H := by
  obtain ⟨h1, h2, h3, h4, h5⟩ := h
  have hraw : ftb (kf + 200) = (ftb kf).map (fun t => if t.1 = 1 then (2, 0, t.2.2) else t) := by
    unfold ftb
    rw [if_pos (by omega), if_neg (by omega), show kf + 200 - 201 = kf - 1 by omega, show kf - 1 + 100 * (1 - kf) = kf - 1 by omega]
  have keep : ∀ b x, kd M b = x → (x.1 ≤ 200 ∨ 1000 ≤ x.1) → kd (sK M a kf) b = x := by
    intro b x e hx
    rw [kd_sK, if_neg]
    · exact e
    · intro z; subst z; rw [hk] at e; rw [← e] at hx; dsimp only at hx; omega
  have hcell : ce G (sK M a kf) a = ce G M a := by
    rw [ce_obj (M := sK M a kf) (k := kf) (n := 0) (by unfold objK; simp only [Bool.or_eq_true, Bool.and_eq_true, Nat.blt_eq]; exact Or.inl hkf) (by rw [kd_sK, if_pos rfl]), ce_obj (M := M) (k := kf + 200) (n := 0) (by unfold objK; simp only [Bool.or_eq_true, Bool.and_eq_true, Nat.blt_eq]; exact Or.inr ⟨by omega, by omega⟩) hk]
    have e1 : cix (kf + 200) = cix kf := by unfold cix; rw [if_pos (by omega), if_neg (by omega)]; omega
    rw [e1]
    refine congrArg (fun l => (Sum.inr (cix kf, l) : va_E)) ?_
    apply List.ext_getElem?
    intro j
    rw [fvs_get, fvs_get, hraw, List.getElem?_map]
    cases e : (ftb kf)[j]? with
    | none => rfl
    | some t =>
      show some (fv (sK M a kf) a j t) = some (fv M a j (if t.1 = 1 then (2, 0, t.2.2) else t))
      by_cases e2 : t.1 = 1
      · rw [if_pos e2]
        unfold fv
        rw [e2]
        show some (Value.ref (a + t.2.1)) = some (va_rf (gR M a j))
        rw [(hfx j t e e2).1]; rfl
      · rw [if_neg e2]; rfl
  refine ⟨h1, h2, h3, fun b hb => ?_, fun b => ?_⟩
  · by_cases e : b = a
    · subst e
      obtain ⟨q1, q2, q3⟩ := h4 b (by rw [hk]; exact (by intro z; cases z))
      exact ⟨q1, q2, by rw [hcell]; exact q3⟩
    · rw [kd_sK, if_neg e] at hb
      obtain ⟨q1, q2, q3⟩ := h4 b hb
      refine ⟨q1, q2, ?_⟩
      have e9 : ce G (sK M a kf) b = ce G M b := by unfold ce; rw [kd_sK, if_neg e]; rfl
      rw [e9]; exact q3
  · obtain ⟨q1, q2, q3, q4⟩ := h5 b
    by_cases e : b = a
    · subst e
      have e1 : kd (sK M b kf) b = (kf, 0) := by rw [kd_sK, if_pos rfl]
      rw [e1]
      refine ⟨fun j t _ ht => ⟨fun e2 => ?_, fun e2 c hc => ?_⟩, fun q => absurd q (by dsimp only; omega), fun q => absurd q (by dsimp only; omega), fun q => absurd q (by dsimp only; omega)⟩
      · exact keep _ _ (hfx j t ht e2).2 ((ftb_ok t (List.mem_of_getElem? ht)).2 (Or.inl e2))
      · have h9 := (q1 j t (by rw [hk]; dsimp only; omega) (by rw [hk]; dsimp only; rw [hraw, List.getElem?_map, ht]; show some (if t.1 = 1 then _ else _) = _; rw [if_neg (by omega)])).2 e2 c hc
        exact keep _ _ h9 ((ftb_ok t (List.mem_of_getElem? ht)).2 (Or.inr e2))
    · have e1 : kd (sK M a kf) b = kd M b := by rw [kd_sK, if_neg e]
      rw [e1]
      refine ⟨fun j t hk9 ht => ⟨fun e2 => keep _ _ ((q1 j t hk9 ht).1 e2) ((ftb_ok t (List.mem_of_getElem? ht)).2 (Or.inl e2)), fun e2 c hc => keep _ _ ((q1 j t hk9 ht).2 e2 c hc) ((ftb_ok t (List.mem_of_getElem? ht)).2 (Or.inr e2))⟩, fun hk9 j hj => keep _ _ (q2 hk9 j hj) (Or.inl (by dsimp only; omega)), fun hk9 j c hj hc => keep _ _ (q3 hk9 j c hj hc) (Or.inl (by dsimp only; omega)), fun hk9 j c hj hc => keep _ _ (q4 hk9 j c hj hc) (Or.inl (by dsimp only; omega))⟩
/-- ... and so it may be seen as one from here on -/
theorem view {Z : ZT} {a kf pc : Nat} {al : LA} {M M8 : Mm} {cs ss : Nat} {QX8 : Nat → Mm → Prop} (hz : Zx Z (some a) M8 QX8) (hkf : 0 < kf ∧ kf < 14) (hno : al.all (noKL (kf + 200)) = true) (hfx : ∀ (j : Nat) (t : Nat × Nat × Nat × Nat), (ftb kf)[j]? = some t → t.1 = 1 → gR M a j = some (a + t.2.1) ∧ kd M (a + t.2.1) = (t.2.2.1, t.2.2.2))
    (k : Wm Z pc (some (vR a kf 0) :: al) [] (sK M a kf) cs ss) : Wm Z pc (some (vR a (kf + 200) 0) :: al) [] M cs ss := by
  obtain ⟨p, e, R, s, m, args, below, meth, c, G, x9, M0, Q', QX, mc, ms⟩ := Z
  obtain ⟨rfl, -, -, -⟩ := hz
  intro H locs ls hl hal hst hgr hrel hS
  have h0 := (hal (vR a (kf + 200) 0) List.mem_cons_self).ref (by omega) (by omega) (by omega)
  refine k H locs ls ⟨hl.1, hl.2.1, fun i v hv => ?_⟩ (fun v hv => ?_) (fun v hv => absurd hv List.not_mem_nil) ⟨⟨hgr.1.1, fun b hb hx => ?_⟩, hgr.2⟩ (hrel.view hkf h0.1 hfx) hS
  · cases i with
    | zero =>
      have := hl.2.2 0 (vR a (kf + 200) 0) rfl
      cases hv
      exact this
    | succ i => exact hl.2.2 (i + 1) v hv
  · rcases List.mem_cons.mp hv with e1 | e1
    · cases e1
      exact okV.mk (by rw [kd_sK, if_pos rfl]) (by omega) (by omega) (by omega) (by omega)
    · have q1 := hal v (List.mem_cons_of_mem _ e1)
      have q2 : noK (kf + 200) v = true := List.all_eq_true.mp hno (some v) e1
      have hg : Grow (some a) M (sK M a kf) := ⟨Nat.le_refl _, fun b _ hb => by rw [kd_sK, if_neg (fun z => hb (by rw [z]))]⟩
      exact okV.growx hg h0.1 q2 q1
  · rw [kd_sK, if_neg (fun z => hx (by rw [z]))]
    exact hgr.1.2 b hb hx
