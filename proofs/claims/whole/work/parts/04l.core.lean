/-! # core, 11: calls of methods that may throw; catching; methods with a table -/
section Calls11
variable {p : Program} {l : Launch} {e : Env} {R : Room} {s : State} {m : MethodId} {args : Array Value} {below : List Frame} {meth : Method} {c : Code} {H : Heap} {locs : List Loc} {cells slots : Nat} {Qf : State → Prop}
variable {cc : ByteArray} {pc : Nat} {ls : Array Slot} {rest : List Value} {G : GT} {M : Mm} {d mc ms mc2 ms2 n : Nat} {q : MD} {x : Option Nat} {Q2 : Option AV → Mm → Prop} {QX2 : Nat → Mm → Prop} {a : Array Value} {st0 : List Value}
theorem after_runX (hr : vx_Run p l e R s m args below meth c H locs cells slots mc2 ms2 (F0 m pc ls st0) rest (QcA G x M Q2 a) (XcA G x M QX2) (gAb G)) (hS : va_S (gAb G) s.heap H locs)
    (kk : ∀ (r : Option AV) (M' : Mm) (H1 : Heap) (locs1 : List Loc), Q2 r M' → (∀ v, r = some v → okV G M' v) → Grow x M M' → Rel G M' H1 → va_S (gAb G) s.heap H1 locs1 → W p l e R s m args below meth c H1 locs1 (cells + mc2) (slots + ms2) Qf (F0 m (pc + 3) ls ((r.map cv).toList ++ rest)))
    (kx : ∀ (k : Nat) (M' : Mm) (H1 : Heap) (locs1 : List Loc) (z : Addr) (ce : Cell), QX2 k M' → Grow x M M' → Rel G M' H1 → va_S (gAb G) s.heap H1 locs1 → H1[z]? = some ce → ce.vm = .none → s.vm.findClass (excN k) = some ce.cls → vx_W p l e R s m args below meth c H1 locs1 (cells + mc2) (slots + ms2) Qf (F0 m pc ls rest) z) : W p l e R s m args below meth c H locs cells slots Qf (F0 m pc ls st0) := by
  intro T hT X
  rcases hr T hT X with ⟨v, st₀, t, T', L, h0, X', hL, e1, e2, ⟨r, M', hv, hp, hok, hg, hrel, hF⟩, st⟩ | ⟨z, st₀, t, T', L, E, ce, h0, X', hL, e1, e2, ⟨k, M', rfl, hp, hg, hrel, hF⟩, hce, hcv, hcl, st⟩
  · cases hv
    obtain ⟨k1, k2, k3⟩ := vx_keep h0 e1 hS (fun _ _ h => h) (fun _ h => h) hL hF
    obtain ⟨t2, a1, b1⟩ := kk r M' T'.heap (locs ++ L) hp hok hg (by rw [e1]; exact hrel) k3 T' rfl X'
    exact ⟨t2, st t2 a1, b1⟩
  · obtain ⟨k1, k2, k3⟩ := vx_keep h0 e1 hS (fun _ _ h => h) (fun _ h => h) hL hF
    obtain ⟨t2, a1, b1⟩ := kx k M' T'.heap (locs ++ L) z ce hp hg (by rw [e1]; exact hrel) k3 (by rw [e1]; exact hce) hcv hcl T' rfl X'
    exact ⟨t2, st.trans a1, b1⟩
theorem W_callVX (hx : p.tables.exec = Jvm.exec) (hb : c.code = cc) {own : String} {index : Nat} (hown : s.vm.findClass own = some m.cls) (hts : ∀ w ∈ gtb, w.before args s = true) (hG : GK G s) (hR : Rok R d mc ms) (hm : MOk q n) (hV : MV q) (L : Cond.methodLink own index q.1 ∈ lw_tbl) {b : Nat} {k9 n9 : Nat} {As : List AV} (ct : CTX G none (d - 1) mc2 ms2 q (vR b k9 n9 :: As) M Q2 QX2) (hl : l = gl G)
    (hrecv : ∃ cellB : Cell, H[b]? = some cellB ∧ cellB.vm.isStatics = false ∧ s.vm.findClass q.1.cls = some cellB.cls) (hn : As.length = n) (hrel : Rel G M H) (hok : okS G M (vR b k9 n9 :: As)) (hS : va_S (gAb G) s.heap H locs) (hd : 1 ≤ d) (hrest : (rest.map fun v => v.category).sum ≤ 8) (hsize : ls.size = c.maxLocals) (hdg : decode cc pc = .ok (.invokevirtual index, 3)) (hcs : cells + mc2 ≤ mc ∧ slots + ms2 ≤ ms)
    (kk : ∀ (r : Option AV) (M' : Mm) (H1 : Heap) (locs1 : List Loc), Q2 r M' → (∀ v, r = some v → okV G M' v) → Grow none M M' → Rel G M' H1 → va_S (gAb G) s.heap H1 locs1 → W p l e R s m args below meth c H1 locs1 (cells + mc2) (slots + ms2) Qf (F0 m (pc + 3) ls ((r.map cv).toList ++ rest)))
    (kx : ∀ (k : Nat) (M' : Mm) (H1 : Heap) (locs1 : List Loc) (z : Addr) (ce : Cell), QX2 k M' → Grow none M M' → Rel G M' H1 → va_S (gAb G) s.heap H1 locs1 → H1[z]? = some ce → ce.vm = .none → s.vm.findClass (excN k) = some ce.cls → vx_W p l e R s m args below meth c H1 locs1 (cells + mc2) (slots + ms2) Qf (F0 m pc ls rest) z) : W p l e R s m args below meth c H locs cells slots Qf (F0 m pc ls ((As.map cv).reverse ++ .ref b :: rest)) := by
  subst hl
  have hroom := room_ok (mc2 := mc2) (ms2 := ms2) hm.2.2.2.2.2 hd hR rfl
  have hini := hts _ (gtb_in hm.2.1 rfl)
  have hf : cells + mc2 ≤ R.cells ∧ slots + ms2 ≤ R.slots := ⟨Nat.le_trans hcs.1 hR.2.2.1, Nat.le_trans hcs.2 hR.2.2.2⟩
  have hp : PreV s H q.1.cls b (PcA G (vR b k9 n9 :: As) M) (As.map cv) := ⟨PcA_blind _ _ _, hrecv, PcA_pre hG hrel hok⟩
  exact after_runX (vx_runV (As := As.map cv) (rest := rest) ⟨hx, hb, rfl, hown, hts⟩ ct ⟨callB_of n hts (gtb_good q hm) rfl rfl rfl hini (hts _ (gtb_in L rfl)) ⟨hm.2.2.2.1.1, hm.2.2.2.1.2, hm.2.2.2.2.1⟩ hroom, hts _ (gtb_in hV.1 rfl), hts _ (gtb_in hV.2 rfl)⟩ hp rfl (by rw [List.length_map]; exact hn) hsize rfl (lv_room hrest) hdg hf) hS kk kx
end Calls11
/-- it isn't caught here -/
def o_cVXv (K : List AV → Mm → (Option AV → Mm → Prop) → (Nat → Mm → Prop) → Prop) (n kk mc ms mc2 ms2 : Nat) (QX : Nat → Mm → Prop) (φ : Fm) : Fm := fun al st M cs ss => match st.drop n with
  | Sum.inr (Sum.inr (some (b, k9, n9))) :: rest => cond (Nat.beq k9 kk && sl8 rest && Nat.ble n st.length) (need mc2 ms2 cs ss mc ms (∃ (P : Mm → Prop) (PX : Nat → Mm → Prop), K (vR b k9 n9 :: (st.take n).reverse) M (Qv P) PX ∧ (∀ M', P M' → φ al rest M' (cs + mc2) (ss + ms2)) ∧ ∀ k M', PX k M' → QX k M')) False
  | _ => False
theorem s_cVXv {Z : ZT} {cc : ByteArray} {own : String} {ret : Option FieldType} {d mc9 ms9 : Nat} {G9 : GT} {Q : Option AV → Mm → Prop} (C : Zok Z cc own ret d G9 mc9 ms9 Q) {pc : Nat} {n kk index mc2 ms2 N : Nat} {T0 : u_T} {q : MD} {φ : Fm} {x8 : Option Nat} {M8 : Mm} {QX8 : Nat → Mm → Prop} (hz : Zx Z x8 M8 QX8) (hd : decode cc pc = .ok (.invokevirtual index, 3)) (hm : MOk q n) (hV : MV q) (L : Cond.methodLink own index q.1 ∈ lw_tbl) (hk0 : objK kk = true) (hcl : vwCl[cix kk]? = some (q.1.cls, T0, N)) (hd1 : 1 ≤ d) (k : Sd Z φ (pc + 3)) :
    Sd Z (o_cVXv (fun avs M Q2 QX2 => CTX G9 none (d - 1) mc2 ms2 q avs M Q2 QX2) n kk mc9 ms9 mc2 ms2 QX8 φ) pc := by
  obtain ⟨p, e, R, s, m, args, below, meth, c, G, x9, M0, Q', QX, mc, ms⟩ := Z
  obtain ⟨hx, hb, hown, hts, hlk, hr, hG, hR, hQ, rfl, rfl, rfl, hB⟩ := C
  obtain ⟨rfl, rfl, rfl, hno⟩ := hz
  intro al st M cs ss h H locs ls hl hal hst hgr hrel hS
  unfold o_cVXv at h
  split at h
  · next b k9 n9 rest hdrop =>
    cases hc9 : (Nat.beq k9 kk && sl8 rest && Nat.ble n st.length) with
    | false => rw [hc9] at h; exact h.elim
    | true =>
      rw [hc9] at h
      simp only [Bool.and_eq_true] at hc9
      have hkk := Nat.eq_of_beq_eq_true hc9.1.1
      subst hkk
      obtain ⟨hnd, P, PX, h2, h3, h4⟩ := h.to hgr.2.1 hgr.2.2
      have hdr := hst.drop n
      rw [hdrop] at hdr
      have hq := objK_lt hk0
      have hkd := (okS.head hdr).ref hq.2.2.2.2.2.2.1 hq.2.2.2.2.2.2.2.1 hq.2.2.2.2.2.2.2.2
      have hat := hrel.at (a := b) (by rw [hkd.1]; exact hkd.2)
      rw [ce_obj hk0 hkd.1] at hat
      have hrs := okS.tail hdr
      have hml : ls.size = c.maxLocals := hl.1
      have e0 : st.map cv = (((st.take n).reverse).map cv).reverse ++ .ref b :: rest.map cv := by rw [st_split st n, hdrop]; rfl
      rw [e0]
      refine W_callVX hx hb hown hts hG hR hm hV L h2 rfl (va_recv hG.1 (va_P1 hat) hcl (q0 := 0) rfl) (by rw [List.length_reverse, List.length_take]; have := Nat.le_of_ble_eq_true hc9.2; omega) hrel (okS.cons (okS.head hdr) (hst.take n)) hS hd1 (cat8 hc9.1.2) hml hd hnd (fun r M1 H1 locs1 hq hok1 hg1 hrel1 hS1 => ?_) (fun k1 M1 H1 locs1 z ce1 hq hg1 hrel1 hS1 g1 g2 g3 => ?_)
      · obtain ⟨rfl, hP⟩ := hq
        exact k al rest M1 _ _ (h3 M1 hP) H1 locs1 ls hl (hal.grow hg1) (okS.grow hg1 hrs) (hgr.call hg1 hnd) hrel1 hS1
      · exact vx_out (fun z hz => (hno z hz).elim) hlk g1 g2 g3 (fun t ht hal2 => ⟨k1, M1, rfl, h4 k1 M1 hq, hgr.1.trans hg1.weak, by rw [ht]; exact hrel1, hS1.F ht⟩) hS1.2.2 hnd.1 hnd.2
  · exact h.elim
/-- the method's table catches the kind k that comes from pc, at tgt -/
def Cat (Z : ZT) (pc k tgt : Nat) : Prop := match Z with
  | (p, e, R, s, m, args, below, meth, c, G, _) => ∀ (H : Heap) (locs : List Loc) (ls : Array Slot) (rest : List Value) (cs ss : Nat) (z : Addr) (ce : Cell) (Qf : State → Prop), H[z]? = some ce → ce.vm = .none → s.vm.findClass (excN k) = some ce.cls → W p (gl G) e R s m args below meth c H locs cs ss Qf (F0 m tgt ls [.ref z]) → vx_W p (gl G) e R s m args below meth c H locs cs ss Qf (F0 m pc ls rest) z
def Ztb (Z : ZT) (hh : List (Nat × Nat × Nat × Nat)) : Prop := match Z with
  | (_, _, _, _, _, _, _, _, c, _) => c.exceptionTable.toList = tableOf hh
section Cats
variable {Z : ZT} {cc : ByteArray} {own : String} {ret : Option FieldType} {d mc9 ms9 : Nat} {G9 : GT} {Q : Option AV → Mm → Prop}
theorem cat_1 (C : Zok Z cc own ret d G9 mc9 ms9 Q) {pc k : Nat} {t : Nat × Nat × Nat × Nat} (ht : Ztb Z [t]) (hx : Nat.ble t.1 pc = true ∧ Nat.blt pc t.2.1 = true) (h0 : t.2.2.2 ≠ 0) (hl : Cond.classLink own t.2.2.2 (excN k) ∈ lw_tbl) (hc : Cond.castable (excN k) (excN k) ∈ lw_tbl) : Cat Z pc k t.2.2.1 := by
  obtain ⟨p, e, R, s, m, args, below, meth, c, G, x9, M0, Q', QX, mc, ms⟩ := Z
  obtain ⟨hx0, hb, hown, hts, hlk, hr, hG, hR, hQ, rfl, rfl, rfl, hB⟩ := C
  intro H locs ls rest cs ss z ce Qf g1 g2 g3 w
  exact vx_catch hown [] ⟨t.1, t.2.1, t.2.2.1, t.2.2.2⟩ [] ht (fun z hz => absurd hz List.not_mem_nil) (by unfold covers; simp only [Nat.ble_eq, Nat.blt_eq] at hx; simp [hx.1, hx.2]) h0 (hts _ (gtb_in hl rfl)) (va_Nw.use rfl (hG.2.1.1 _ hc rfl)) g1 g2 g3 w
theorem cat_2a (C : Zok Z cc own ret d G9 mc9 ms9 Q) {pc k : Nat} {t t2 : Nat × Nat × Nat × Nat} (ht : Ztb Z [t, t2]) (hx : Nat.ble t.1 pc = true ∧ Nat.blt pc t.2.1 = true) (h0 : t.2.2.2 ≠ 0) (hl : Cond.classLink own t.2.2.2 (excN k) ∈ lw_tbl) (hc : Cond.castable (excN k) (excN k) ∈ lw_tbl) : Cat Z pc k t.2.2.1 := by
  obtain ⟨p, e, R, s, m, args, below, meth, c, G, x9, M0, Q', QX, mc, ms⟩ := Z
  obtain ⟨hx0, hb, hown, hts, hlk, hr, hG, hR, hQ, rfl, rfl, rfl, hB⟩ := C
  intro H locs ls rest cs ss z ce Qf g1 g2 g3 w
  exact vx_catch hown [] ⟨t.1, t.2.1, t.2.2.1, t.2.2.2⟩ [⟨t2.1, t2.2.1, t2.2.2.1, t2.2.2.2⟩] ht (fun z hz => absurd hz List.not_mem_nil) (by unfold covers; simp only [Nat.ble_eq, Nat.blt_eq] at hx; simp [hx.1, hx.2]) h0 (hts _ (gtb_in hl rfl)) (va_Nw.use rfl (hG.2.1.1 _ hc rfl)) g1 g2 g3 w
theorem cat_2b (C : Zok Z cc own ret d G9 mc9 ms9 Q) {pc : Nat} {t t2 : Nat × Nat × Nat × Nat} (ht : Ztb Z [t, t2]) (hx : Nat.ble t2.1 pc = true ∧ Nat.blt pc t2.2.1 = true) (h9 : t.2.2.2 ≠ 0) (hl9 : Cond.classLink own t.2.2.2 (excN 0) ∈ lw_tbl) (h0 : t2.2.2.2 ≠ 0) (hl : Cond.classLink own t2.2.2.2 (excN 1) ∈ lw_tbl) (hc : Cond.castable (excN 1) (excN 1) ∈ lw_tbl) : Cat Z pc 1 t2.2.2.1 := by
  obtain ⟨p, e, R, s, m, args, below, meth, c, G, x9, M0, Q', QX, mc, ms⟩ := Z
  obtain ⟨hx0, hb, hown, hts, hlk, hr, hG, hR, hQ, rfl, rfl, rfl, hB⟩ := C
  intro H locs ls rest cs ss z ce Qf g1 g2 g3 w
  exact vx_catch hown [⟨t.1, t.2.1, t.2.2.1, t.2.2.2⟩] ⟨t2.1, t2.2.1, t2.2.2.1, t2.2.2.2⟩ [] ht (fun z hz => by rw [List.mem_singleton.mp hz]; exact Or.inr ⟨h9, _, hts _ (gtb_in hl9 rfl), hG.2.2.2.2.2.2.2.2.2.1⟩) (by unfold covers; simp only [Nat.ble_eq, Nat.blt_eq] at hx; simp [hx.1, hx.2]) h0 (hts _ (gtb_in hl rfl)) (va_Nw.use rfl (hG.2.1.1 _ hc rfl)) g1 g2 g3 w
end Cats
/-- a method with a table, that returns -/
def CTW (G : GT) (d mc ms : Nat) (q : MD) (hh : List (Nat × Nat × Nat × Nat)) (avs : List AV) (M : Mm) (Q : Option AV → Mm → Prop) : Prop :=
  Met (gl G) q.1 (Cond.codeWith q.1 q.2.1 q.2.2.1 q.2.2.2 hh :: gtb) (rmd d mc ms) (PcA G avs M) (QcA G none M Q) mc ms (gAb G)
def MOkW (q : MD) (hh : List (Nat × Nat × Nat × Nat)) (n : Nat) : Prop := Cond.codeWith q.1 q.2.1 q.2.2.1 q.2.2.2 hh ∈ lw_tbl ∧ Cond.initialized q.1.cls ∈ lw_tbl ∧ plainName q.1.cls = true ∧ (q.1.cls ≠ "java/lang/invoke/MethodHandle" ∧ q.1.cls ≠ "java/lang/invoke/VarHandle") ∧ (parseMethodDescriptor q.1.desc).map (fun d => d.parameters.length) = some n ∧ q.2.2.1 ≤ 21
theorem CTW.of {G : GT} {d mc ms n : Nat} {q : MD} {hh : List (Nat × Nat × Nat × Nat)} {avs : List AV} {M : Mm} {Q : Option AV → Mm → Prop} (hm : MOkW q hh n) (hlg : ∀ v ∈ avs, isLg (some v) = false) (hlen : avs.length ≤ q.2.2.1)
    (body : ∀ Z : ZT, Zok Z q.2.1 q.1.cls q.2.2.2 d G mc ms Q → Zml Z = q.2.2.1 → Ztb Z hh → Wm Z 0 (al0 avs q.2.2.1) [] M 0 0) : CTW G d mc ms q hh avs M Q := by
  obtain ⟨h1, h2, h3, h4, h5, h6⟩ := hm
  have key : vx_Met (gl G) q.1 (Cond.codeWith q.1 q.2.1 q.2.2.1 q.2.2.2 hh :: gtb) (rmd d mc ms) (PcA G avs M) (QcA G none M Q) (XcA G none M (fun _ _ => False)) mc ms (gAb G) := by
    refine vx_ofWH (cc := q.2.1) (maxL := q.2.2.1) (ret := q.2.2.2) h3 rfl ?_
    intro p e s m args below meth c s₁ B hml hv
    obtain ⟨rfl, hG, hrel, hok⟩ := hv
    have hts := atoms_spec (ws := Cond.codeWith q.1 q.2.1 q.2.2.1 q.2.2.2 hh :: gtb) B.pre
    have hown : s.vm.findClass q.1.cls = some m.cls := findClass_of_methodNamed B.named
    have htab := vx_table (x := q.1) B (hts _ List.mem_cons_self)
    have hb := body (p, e, rmd d mc ms, s, m, (avs.map cv).toArray, below, meth, c, G, none, M, Q, (fun _ _ => False), mc, ms) ⟨B.exec, B.bytes, hown, fun w hw => hts w (List.mem_cons_of_mem _ hw), B.notSynchronized, B.returns, hG, Rok.rf d mc ms, rfl, rfl, rfl, rfl, hrel.2.1⟩ hml htab
    rw [lg_entry_eq]
    have hl := lv_entry (avs.map cv) (n := q.2.2.1) (by rw [lg_sl_1 hlg, List.length_map]; exact hlen)
    have hLR : LR (lg_sl (avs.map cv) ++ List.replicate (q.2.2.1 - (lg_sl (avs.map cv)).length) Slot.unset).toArray c.maxLocals (al0 avs q.2.2.1) := by
      refine ⟨by rw [hml]; exact hl.1, hl.2.1, fun i v hi => ?_⟩
      unfold al0 at hi
      by_cases hlt : i < avs.length
      · rw [List.getElem?_append_left (by rw [List.length_map]; exact hlt), List.getElem?_map] at hi
        rw [lg_sl_1 hlg, List.getElem?_toArray, List.getElem?_append_left (by rw [List.length_map]; exact hlt), List.getElem?_map]
        cases hv : avs[i]? with
        | none => rw [hv] at hi; cases hi
        | some w => rw [hv] at hi; cases hi; rfl
      · rw [List.getElem?_append_right (by rw [List.length_map]; omega), List.getElem?_replicate] at hi
        split at hi
        · cases hi
        · cases hi
    have hokL : okL G M (al0 avs q.2.2.1) := by
      intro v hv
      unfold al0 at hv
      rcases List.mem_append.mp hv with h | h
      · obtain ⟨w, hw, e0⟩ := List.mem_map.mp h
        cases e0; exact hok v hw
      · exact absurd (List.mem_replicate.mp h).2 (fun z => nomatch z)
    exact hb s.heap [] _ hLR hokL (fun v hv => absurd hv List.not_mem_nil) ⟨Grow.rf none M, Nat.zero_le _, Nat.zero_le _⟩ hrel va_S.rf
  intro p e ha hc hk s m args below hf happ hP hK
  obtain ⟨n9, o, g1, g2, g3, g4⟩ := key p e ha hc hk s m args below hf happ hP hK
  refine ⟨n9, o, g1, g2, g3, ?_⟩
  rcases g4 with h5 | ⟨q9, -, E, ce9, L, ⟨k, M', -, hF, -⟩, -⟩
  · exact h5
  · exact hF.elim
