/-! # core, 7: calls -/
def MV (q : MD) : Prop := Cond.instanceMethod q.1 ∈ lw_tbl ∧ Cond.selects q.1.cls q.1 q.1 ∈ lw_tbl
def MS (q : MD) : Prop := Cond.static q.1 ∈ lw_tbl
def MI (q : MD) : Prop := Cond.instanceMethod q.1 ∈ lw_tbl ∧ q.1.name = "<init>" ∧ q.2.2.2 = none
/-- a method's link out of a class -/
def LkM (own : String) (index : Nat) (y : MethodName) : Prop := Cond.methodLink own index y ∈ lw_tbl ∨ ∃ host, Cond.methodLinkNest own index y host ∈ lw_tbl
theorem gtb_good (q : MD) {n : Nat} (hm : MOk q n) : GoodIn gtb (Cond.code q.1 q.2.1 q.2.2.1 q.2.2.2 :: gtb) := by
  intro w hw
  have h : w ∈ gtb := by
    rcases List.mem_cons.mp hw with e | e
    · rw [e]; exact gtb_in hm.1 rfl
    · exact e
  exact ⟨h, good_of_word (List.mem_filter.mp h).2⟩
theorem PcA_blind (G : GT) (avs : List AV) (M : Mm) : FrameBlind (PcA G avs M) := fun a U g mk q => ⟨q.1, GK.same (s := U) (U := U.calling g mk a) rfl q.2.1, q.2.2⟩
theorem PcA_pre {G : GT} {avs : List AV} {M : Mm} {H : Heap} {s : State} (hG : GK G s) (hrel : Rel G M H) (hok : okS G M avs) : ∀ U : State, U.heap = H → s.WarmedH U.vm → PcA G avs M (avs.map cv).toArray U := fun U hU hW => ⟨rfl, hG.warm hW, by rw [hU]; exact hrel, hok⟩
section Calls7
variable {p : Program} {l : Launch} {e : Env} {R : Room} {s : State} {m : MethodId} {args : Array Value} {below : List Frame} {meth : Method} {c : Code} {H : Heap} {locs : List Loc} {cells slots : Nat} {Qf : State → Prop}
variable {cc : ByteArray} {pc : Nat} {ls : Array Slot} {rest : List Value} {G : GT} {M : Mm} {d mc ms mc2 ms2 n : Nat} {q : MD} {x : Option Nat} {Q2 : Option AV → Mm → Prop} {a : Array Value} {st0 : List Value}
theorem after_run (hr : va_Run p l e R s m args below meth c H locs cells slots mc2 ms2 (F0 m pc ls st0) rest (QcA G x M Q2 a) (gAb G)) (hS : va_S (gAb G) s.heap H locs)
    (kk : ∀ (r : Option AV) (M' : Mm) (H1 : Heap) (locs1 : List Loc), Q2 r M' → (∀ v, r = some v → okV G M' v) → Grow x M M' → Rel G M' H1 → va_S (gAb G) s.heap H1 locs1 → W p l e R s m args below meth c H1 locs1 (cells + mc2) (slots + ms2) Qf (F0 m (pc + 3) ls ((r.map cv).toList ++ rest))) : W p l e R s m args below meth c H locs cells slots Qf (F0 m pc ls st0) := by
  intro T hT X
  obtain ⟨v, st₀, t, T', L, h0, X', hL, e1, e2, ⟨r, M', hv, hp, hok, hg, hrel, hF⟩, st⟩ := hr T hT X
  cases hv
  obtain ⟨k1, k2, k3⟩ := vx_keep h0 e1 hS (fun _ _ h => h) (fun _ h => h) hL hF
  obtain ⟨t2, a1, b1⟩ := kk r M' T'.heap (locs ++ L) hp hok hg (by rw [e1]; exact hrel) k3 T' rfl X'
  exact ⟨t2, st t2 a1, b1⟩
theorem room_ok {maxL d' : Nat} (h : maxL ≤ 21) (hd : 1 ≤ d) (hR : Rok R d mc ms) (hd' : d' = d - 1) : (rmd d' mc2 ms2).frames + 1 ≤ R.frames ∧ 8 + (maxL + 11) + (rmd d' mc2 ms2).locals ≤ R.locals := by
  subst hd'
  obtain ⟨h1, h2, -, -⟩ := hR
  show d - 1 + 1 ≤ R.frames ∧ 8 + (maxL + 11) + 40 * (d - 1) ≤ R.locals
  omega
theorem W_callV (hx : p.tables.exec = Jvm.exec) (hb : c.code = cc) {own : String} {index : Nat} (hown : s.vm.findClass own = some m.cls) (hts : ∀ w ∈ gtb, w.before args s = true) (hG : GK G s) (hR : Rok R d mc ms) (hm : MOk q n) (hV : MV q) (L : LkM own index q.1) {b : Nat} {k9 n9 : Nat} {As : List AV} (ct : CT G none (d - 1) mc2 ms2 q (vR b k9 n9 :: As) M Q2) (hl : l = gl G)
    (hrecv : ∃ cellB : Cell, H[b]? = some cellB ∧ cellB.vm.isStatics = false ∧ s.vm.findClass q.1.cls = some cellB.cls) (hn : As.length = n) (hrel : Rel G M H) (hok : okS G M (vR b k9 n9 :: As)) (hS : va_S (gAb G) s.heap H locs) (hd : 1 ≤ d) (hrest : (rest.map fun v => v.category).sum ≤ 8) (hsize : ls.size = c.maxLocals) (hdg : decode cc pc = .ok (.invokevirtual index, 3)) (hcs : cells + mc2 ≤ mc ∧ slots + ms2 ≤ ms)
    (kk : ∀ (r : Option AV) (M' : Mm) (H1 : Heap) (locs1 : List Loc), Q2 r M' → (∀ v, r = some v → okV G M' v) → Grow none M M' → Rel G M' H1 → va_S (gAb G) s.heap H1 locs1 → W p l e R s m args below meth c H1 locs1 (cells + mc2) (slots + ms2) Qf (F0 m (pc + 3) ls ((r.map cv).toList ++ rest))) : W p l e R s m args below meth c H locs cells slots Qf (F0 m pc ls ((As.map cv).reverse ++ .ref b :: rest)) := by
  subst hl
  have hroom := room_ok (mc2 := mc2) (ms2 := ms2) hm.2.2.2.2.2 hd hR rfl
  have hini := hts _ (gtb_in hm.2.1 rfl)
  have hf : cells + mc2 ≤ R.cells ∧ slots + ms2 ≤ R.slots := ⟨Nat.le_trans hcs.1 hR.2.2.1, Nat.le_trans hcs.2 hR.2.2.2⟩
  have hp : PreV s H q.1.cls b (PcA G (vR b k9 n9 :: As) M) (As.map cv) := ⟨PcA_blind _ _ _, hrecv, PcA_pre hG hrel hok⟩
  rcases L with hw | ⟨host, hw⟩
  · exact after_run (va_runV (As := As.map cv) (rest := rest) ⟨hx, hb, rfl, hown, hts⟩ ct ⟨callB_of n hts (gtb_good q hm) rfl rfl rfl hini (hts _ (gtb_in hw rfl)) ⟨hm.2.2.2.1.1, hm.2.2.2.1.2, hm.2.2.2.2.1⟩ hroom, hts _ (gtb_in hV.1 rfl), hts _ (gtb_in hV.2 rfl)⟩ hp rfl (by rw [List.length_map]; exact hn) hsize rfl (lv_room hrest) hdg hf) hS kk
  · exact after_run (va_runVN (C := q.1.cls) (As := As.map cv) (rest := rest) ⟨hx, hb, rfl, hown, hts⟩ ct ⟨va_cnB n hts (gtb_good q hm) rfl rfl rfl (hG.2.1.1 _ hw rfl) hini ⟨hm.2.2.2.1.1, hm.2.2.2.1.2, hm.2.2.2.2.1⟩ hroom, hts _ (gtb_in hV.1 rfl), hts _ (gtb_in hV.2 rfl)⟩ hp rfl (by rw [List.length_map]; exact hn) hsize rfl (lv_room hrest) hdg hf) hS kk
theorem W_callS (hx : p.tables.exec = Jvm.exec) (hb : c.code = cc) {own : String} {index : Nat} (hown : s.vm.findClass own = some m.cls) (hts : ∀ w ∈ gtb, w.before args s = true) (hG : GK G s) (hR : Rok R d mc ms) (hm : MOk q n) (hV : MS q) (L : LkM own index q.1) {As : List AV} (ct : CT G none (d - 1) mc2 ms2 q As M Q2) (hl : l = gl G)
    (hn : As.length = n) (hrel : Rel G M H) (hok : okS G M As) (hS : va_S (gAb G) s.heap H locs) (hd : 1 ≤ d) (hrest : (rest.map fun v => v.category).sum ≤ 8) (hsize : ls.size = c.maxLocals) (hdg : decode cc pc = .ok (.invokestatic index, 3)) (hcs : cells + mc2 ≤ mc ∧ slots + ms2 ≤ ms)
    (kk : ∀ (r : Option AV) (M' : Mm) (H1 : Heap) (locs1 : List Loc), Q2 r M' → (∀ v, r = some v → okV G M' v) → Grow none M M' → Rel G M' H1 → va_S (gAb G) s.heap H1 locs1 → W p l e R s m args below meth c H1 locs1 (cells + mc2) (slots + ms2) Qf (F0 m (pc + 3) ls ((r.map cv).toList ++ rest))) : W p l e R s m args below meth c H locs cells slots Qf (F0 m pc ls ((As.map cv).reverse ++ rest)) := by
  subst hl
  have hroom := room_ok (mc2 := mc2) (ms2 := ms2) hm.2.2.2.2.2 hd hR rfl
  have hini := hts _ (gtb_in hm.2.1 rfl)
  have hf : cells + mc2 ≤ R.cells ∧ slots + ms2 ≤ R.slots := ⟨Nat.le_trans hcs.1 hR.2.2.1, Nat.le_trans hcs.2 hR.2.2.2⟩
  have hp : PreS s H (PcA G As M) (As.map cv) := ⟨PcA_blind _ _ _, PcA_pre hG hrel hok⟩
  rcases L with hw | ⟨host, hw⟩
  · exact after_run (va_runS (As := As.map cv) (rest := rest) ⟨hx, hb, rfl, hown, hts⟩ ct ⟨callB_of n hts (gtb_good q hm) rfl rfl rfl hini (hts _ (gtb_in hw rfl)) ⟨hm.2.2.2.1.1, hm.2.2.2.1.2, hm.2.2.2.2.1⟩ hroom, hts _ (gtb_in hV rfl)⟩ hp rfl (by rw [List.length_map]; exact hn) hsize rfl (lv_room hrest) hdg hf) hS kk
  · exact after_run (va_runSN (As := As.map cv) (rest := rest) ⟨hx, hb, rfl, hown, hts⟩ ct ⟨va_cnB n hts (gtb_good q hm) rfl rfl rfl (hG.2.1.1 _ hw rfl) hini ⟨hm.2.2.2.1.1, hm.2.2.2.1.2, hm.2.2.2.2.1⟩ hroom, hts _ (gtb_in hV rfl), trivial⟩ hp rfl (by rw [List.length_map]; exact hn) hsize rfl (lv_room hrest) hdg hf) hS kk
theorem W_callI (hx : p.tables.exec = Jvm.exec) (hb : c.code = cc) {own : String} {index : Nat} (hown : s.vm.findClass own = some m.cls) (hts : ∀ w ∈ gtb, w.before args s = true) (hG : GK G s) (hR : Rok R d mc ms) (hm : MOk q n) (hV : MI q) (L : LkM own index q.1) {b k9 n9 : Nat} {As : List AV} (ct : CT G (some b) (d - 1) mc2 ms2 q (vR b k9 n9 :: As) M Q2) (hl : l = gl G)
    (hn : As.length = n) (hrel : Rel G M H) (hok : okS G M (vR b k9 n9 :: As)) (hS : va_S (gAb G) s.heap H locs) (hd : 1 ≤ d) (hrest : (rest.map fun v => v.category).sum ≤ 8) (hsize : ls.size = c.maxLocals) (hdg : decode cc pc = .ok (.invokespecial index, 3)) (hcs : cells + mc2 ≤ mc ∧ slots + ms2 ≤ ms)
    (kk : ∀ (r : Option AV) (M' : Mm) (H1 : Heap) (locs1 : List Loc), Q2 r M' → (∀ v, r = some v → okV G M' v) → Grow (some b) M M' → Rel G M' H1 → va_S (gAb G) s.heap H1 locs1 → W p l e R s m args below meth c H1 locs1 (cells + mc2) (slots + ms2) Qf (F0 m (pc + 3) ls ((r.map cv).toList ++ rest))) : W p l e R s m args below meth c H locs cells slots Qf (F0 m pc ls ((As.map cv).reverse ++ .ref b :: rest)) := by
  subst hl
  have hroom := room_ok (mc2 := mc2) (ms2 := ms2) hm.2.2.2.2.2 hd hR rfl
  have hini := hts _ (gtb_in hm.2.1 rfl)
  have hf : cells + mc2 ≤ R.cells ∧ slots + ms2 ≤ R.slots := ⟨Nat.le_trans hcs.1 hR.2.2.1, Nat.le_trans hcs.2 hR.2.2.2⟩
  have hp : PreS s H (PcA G (vR b k9 n9 :: As) M) (.ref b :: As.map cv) := ⟨PcA_blind _ _ _, PcA_pre hG hrel hok⟩
  have hg := gtb_good q hm
  obtain ⟨y, bytes, maxL, ret⟩ := q
  obtain ⟨hv1, hv2, hv3⟩ := hV
  dsimp only at hv3
  subst hv3
  rcases L with hw | ⟨host, hw⟩
  · exact after_run (va_runI (As := As.map cv) (rest := rest) ⟨hx, hb, rfl, hown, hts⟩ ct ⟨callB_of n hts hg rfl rfl rfl hini (hts _ (gtb_in hw rfl)) ⟨hm.2.2.2.1.1, hm.2.2.2.1.2, hm.2.2.2.2.1⟩ hroom, hv2, hts _ (gtb_in hv1 rfl)⟩ hp rfl (by rw [List.length_map]; exact hn) hsize rfl (lv_room hrest) hdg hf) hS kk
  · exact after_run (va_runIN (As := As.map cv) (rest := rest) ⟨hx, hb, rfl, hown, hts⟩ ct ⟨va_cnB n hts hg rfl rfl rfl (hG.2.1.1 _ hw rfl) hini ⟨hm.2.2.2.1.1, hm.2.2.2.1.2, hm.2.2.2.2.1⟩ hroom, hv2, hts _ (gtb_in hv1 rfl)⟩ hp rfl (by rw [List.length_map]; exact hn) hsize rfl (lv_room hrest) hdg hf) hS kk
end Calls7
/-! ## combinators -/
/-- what a call needs of cells and slots: nothing, where it makes none -/
def need (mc2 ms2 cs ss mc ms : Nat) (A : Prop) : Prop := cond (Nat.beq mc2 0 && Nat.beq ms2 0) A ((cs + mc2 ≤ mc ∧ ss + ms2 ≤ ms) ∧ A)
theorem need.to {mc2 ms2 cs ss mc ms : Nat} {A : Prop} (h : need mc2 ms2 cs ss mc ms A) (h1 : cs ≤ mc) (h2 : ss ≤ ms) : (cs + mc2 ≤ mc ∧ ss + ms2 ≤ ms) ∧ A := by
  unfold need at h
  cases e : (Nat.beq mc2 0 && Nat.beq ms2 0) with
  | true =>
    rw [e] at h
    have e1 := Nat.eq_of_beq_eq_true (Bool.and_eq_true_iff.mp e).1
    have e2 := Nat.eq_of_beq_eq_true (Bool.and_eq_true_iff.mp e).2
    subst e1; subst e2
    exact ⟨⟨h1, h2⟩, h⟩
  | false => rw [e] at h; exact h
def sl8 (st : List AV) : Bool := Nat.ble ((st.map (fun v => bif isLg (some v) then 2 else 1)).sum) 8
theorem cat_sum : ∀ (st : List AV), ((st.map cv).map fun v => v.category).sum = (st.map (fun v => bif isLg (some v) then 2 else 1)).sum
  | [] => rfl
  | v :: st => by
    have h := cat_sum st
    simp only [List.map_cons, List.sum_cons, cv_cat]
    rw [h]
theorem cat8 {st : List AV} (h : sl8 st = true) : ((st.map cv).map fun v => v.category).sum ≤ 8 := by rw [cat_sum]; exact Nat.le_of_ble_eq_true h
theorem okS.grow {G : GT} {M M' : Mm} {st : List AV} (hg : Grow none M M') (h : okS G M st) : okS G M' st := fun v hv => (h v hv).grow hg
theorem okL.grow {G : GT} {M M' : Mm} {al : LA} (hg : Grow none M M') (h : okL G M al) : okL G M' al := fun v hv => (h v hv).grow hg
theorem okS.take {G : GT} {M : Mm} {st : List AV} (n : Nat) (h : okS G M st) : okS G M (st.take n).reverse := fun v hv => h v (List.mem_of_mem_take (List.mem_reverse.mp hv))
theorem okS.drop {G : GT} {M : Mm} {st : List AV} (n : Nat) (h : okS G M st) : okS G M (st.drop n) := fun v hv => h v (List.mem_of_mem_drop hv)
theorem Gro.call {x : Option Nat} {M0 M M' : Mm} {cs ss mc ms mc2 ms2 : Nat} (h : Gro x M0 M cs ss mc ms) (hg : Grow none M M') (hn : cs + mc2 ≤ mc ∧ ss + ms2 ≤ ms) : Gro x M0 M' (cs + mc2) (ss + ms2) mc ms := ⟨h.1.trans hg.weak, hn⟩
theorem st_split (st : List AV) (n : Nat) : st.map cv = (((st.take n).reverse).map cv).reverse ++ (st.drop n).map cv := by
  rw [List.map_reverse, List.reverse_reverse, ← List.map_append, List.take_append_drop]
def o_cVi (K : List AV → Mm → (Option AV → Mm → Prop) → Prop) (n kk mc ms mc2 ms2 : Nat) (φ : Fm) : Fm := fun al st M cs ss => match st.drop n with
  | Sum.inr (Sum.inr (some (b, k9, n9))) :: rest => cond (Nat.beq k9 kk && sl8 rest && Nat.ble n st.length) (need mc2 ms2 cs ss mc ms (∃ P : Int32 → Mm → Prop, K (vR b k9 n9 :: (st.take n).reverse) M (Qi P) ∧ ∀ (z : Int32) (M' : Mm), P z M' → φ al (vI z :: rest) M' (cs + mc2) (ss + ms2))) False
  | _ => False
theorem s_cVi {Z : ZT} {cc : ByteArray} {own : String} {ret : Option FieldType} {d mc9 ms9 : Nat} {G9 : GT} {Q : Option AV → Mm → Prop} (C : Zok Z cc own ret d G9 mc9 ms9 Q) {pc : Nat} {n kk index mc2 ms2 N : Nat} {C0 : String} {T0 : u_T} {q : MD} {φ : Fm} (hd : decode cc pc = .ok (.invokevirtual index, 3)) (hm : MOk q n) (hV : MV q) (L : LkM own index q.1) (hk0 : objK kk = true) (hcl : vwCl[cix kk]? = some (q.1.cls, T0, N)) (hd1 : 1 ≤ d) (k : Sd Z φ (pc + 3)) : Sd Z (o_cVi (fun avs M Q2 => CT G9 none (d - 1) mc2 ms2 q avs M Q2) n kk mc9 ms9 mc2 ms2 φ) pc := by
  obtain ⟨p, e, R, s, m, args, below, meth, c, G, x9, M0, Q', QX, mc, ms⟩ := Z
  obtain ⟨hx, hb, hown, hts, hlk, hr, hG, hR, hQ, rfl, rfl, rfl, hB⟩ := C
  intro al st M cs ss h H locs ls hl hal hst hgr hrel hS
  unfold o_cVi at h
  split at h
  · next b k9 n9 rest hdrop =>
    cases hc9 : (Nat.beq k9 kk && sl8 rest && Nat.ble n st.length) with
    | false => rw [hc9] at h; exact h.elim
    | true =>
      rw [hc9] at h
      simp only [Bool.and_eq_true] at hc9
      have hkk := Nat.eq_of_beq_eq_true hc9.1.1
      subst hkk
      obtain ⟨hnd, P, h2, h3⟩ := h.to hgr.2.1 hgr.2.2
      have hdr := hst.drop n
      rw [hdrop] at hdr
      have hq := objK_lt hk0
      have hkd := (okS.head hdr).ref hq.2.2.2.2.2.2.1 hq.2.2.2.2.2.2.2.1 hq.2.2.2.2.2.2.2.2
      have hat := hrel.at (a := b) (by rw [hkd.1]; exact hkd.2)
      rw [ce_obj hk0 hkd.1] at hat
      have hrs := okS.tail hdr
      have hml : ls.size = c.maxLocals := hl.1
      have e0 : st.map cv = (((st.take n).reverse).map cv).reverse ++ .ref b :: rest.map cv := by rw [st_split st n, hdrop]; rfl
      rw [e0]
      exact W_callV hx hb hown hts hG hR hm hV L h2 rfl (va_recv hG.1 (va_P1 hat) hcl (q0 := 0) rfl) (by rw [List.length_reverse, List.length_take]; have := Nat.le_of_ble_eq_true hc9.2; omega) hrel (okS.cons (okS.head hdr) (hst.take n)) hS hd1 (cat8 hc9.1.2) hml hd hnd fun r M1 H1 locs1 hq hok1 hg1 hrel1 hS1 => by
        obtain ⟨z, rfl, hP⟩ := hq; exact k al (vI z :: rest) M1 _ _ (h3 z M1 hP) H1 locs1 ls hl (hal.grow hg1) (okS.cons trivial (okS.grow hg1 hrs)) (hgr.call hg1 hnd) hrel1 hS1
  · exact h.elim
def o_cSi (K : List AV → Mm → (Option AV → Mm → Prop) → Prop) (n mc ms mc2 ms2 : Nat) (φ : Fm) : Fm := fun al st M cs ss => cond (sl8 (st.drop n) && Nat.ble n st.length) (need mc2 ms2 cs ss mc ms (∃ P : Int32 → Mm → Prop, K (st.take n).reverse M (Qi P) ∧ ∀ (z : Int32) (M' : Mm), P z M' → φ al (vI z :: (st.drop n)) M' (cs + mc2) (ss + ms2))) False
theorem s_cSi {Z : ZT} {cc : ByteArray} {own : String} {ret : Option FieldType} {d mc9 ms9 : Nat} {G9 : GT} {Q : Option AV → Mm → Prop} (C : Zok Z cc own ret d G9 mc9 ms9 Q) {pc : Nat} {n index mc2 ms2 : Nat} {q : MD} {φ : Fm} (hd : decode cc pc = .ok (.invokestatic index, 3)) (hm : MOk q n) (hV : MS q) (L : LkM own index q.1) (hd1 : 1 ≤ d) (k : Sd Z φ (pc + 3)) : Sd Z (o_cSi (fun avs M Q2 => CT G9 none (d - 1) mc2 ms2 q avs M Q2) n mc9 ms9 mc2 ms2 φ) pc := by
  obtain ⟨p, e, R, s, m, args, below, meth, c, G, x9, M0, Q', QX, mc, ms⟩ := Z
  obtain ⟨hx, hb, hown, hts, hlk, hr, hG, hR, hQ, rfl, rfl, rfl, hB⟩ := C
  intro al st M cs ss h H locs ls hl hal hst hgr hrel hS
  unfold o_cSi at h
  cases hc9 : (sl8 (st.drop n) && Nat.ble n st.length) with
  | false => rw [hc9] at h; exact h.elim
  | true =>
    rw [hc9] at h
    simp only [Bool.and_eq_true] at hc9
    obtain ⟨hnd, P, h2, h3⟩ := h.to hgr.2.1 hgr.2.2
    have hrs := hst.drop n
    have hml : ls.size = c.maxLocals := hl.1
    rw [st_split st n]
    exact W_callS hx hb hown hts hG hR hm hV L h2 rfl (by rw [List.length_reverse, List.length_take]; have := Nat.le_of_ble_eq_true hc9.2; omega) hrel (hst.take n) hS hd1 (cat8 hc9.1) hml hd hnd fun r M1 H1 locs1 hq hok1 hg1 hrel1 hS1 => by
      obtain ⟨z, rfl, hP⟩ := hq; exact k al (vI z :: (st.drop n)) M1 _ _ (h3 z M1 hP) H1 locs1 ls hl (hal.grow hg1) (okS.cons trivial (okS.grow hg1 hrs)) (hgr.call hg1 hnd) hrel1 hS1
def o_cVl (K : List AV → Mm → (Option AV → Mm → Prop) → Prop) (n kk mc ms mc2 ms2 : Nat) (φ : Fm) : Fm := fun al st M cs ss => match st.drop n with
  | Sum.inr (Sum.inr (some (b, k9, n9))) :: rest => cond (Nat.beq k9 kk && sl8 rest && Nat.ble n st.length) (need mc2 ms2 cs ss mc ms (∃ P : Int64 → Mm → Prop, K (vR b k9 n9 :: (st.take n).reverse) M (Ql P) ∧ ∀ (z : Int64) (M' : Mm), P z M' → φ al (vL z :: rest) M' (cs + mc2) (ss + ms2))) False
  | _ => False
theorem s_cVl {Z : ZT} {cc : ByteArray} {own : String} {ret : Option FieldType} {d mc9 ms9 : Nat} {G9 : GT} {Q : Option AV → Mm → Prop} (C : Zok Z cc own ret d G9 mc9 ms9 Q) {pc : Nat} {n kk index mc2 ms2 N : Nat} {C0 : String} {T0 : u_T} {q : MD} {φ : Fm} (hd : decode cc pc = .ok (.invokevirtual index, 3)) (hm : MOk q n) (hV : MV q) (L : LkM own index q.1) (hk0 : objK kk = true) (hcl : vwCl[cix kk]? = some (q.1.cls, T0, N)) (hd1 : 1 ≤ d) (k : Sd Z φ (pc + 3)) : Sd Z (o_cVl (fun avs M Q2 => CT G9 none (d - 1) mc2 ms2 q avs M Q2) n kk mc9 ms9 mc2 ms2 φ) pc := by
  obtain ⟨p, e, R, s, m, args, below, meth, c, G, x9, M0, Q', QX, mc, ms⟩ := Z
  obtain ⟨hx, hb, hown, hts, hlk, hr, hG, hR, hQ, rfl, rfl, rfl, hB⟩ := C
  intro al st M cs ss h H locs ls hl hal hst hgr hrel hS
  unfold o_cVl at h
  split at h
  · next b k9 n9 rest hdrop =>
    cases hc9 : (Nat.beq k9 kk && sl8 rest && Nat.ble n st.length) with
    | false => rw [hc9] at h; exact h.elim
    | true =>
      rw [hc9] at h
      simp only [Bool.and_eq_true] at hc9
      have hkk := Nat.eq_of_beq_eq_true hc9.1.1
      subst hkk
      obtain ⟨hnd, P, h2, h3⟩ := h.to hgr.2.1 hgr.2.2
      have hdr := hst.drop n
      rw [hdrop] at hdr
      have hq := objK_lt hk0
      have hkd := (okS.head hdr).ref hq.2.2.2.2.2.2.1 hq.2.2.2.2.2.2.2.1 hq.2.2.2.2.2.2.2.2
      have hat := hrel.at (a := b) (by rw [hkd.1]; exact hkd.2)
      rw [ce_obj hk0 hkd.1] at hat
      have hrs := okS.tail hdr
      have hml : ls.size = c.maxLocals := hl.1
      have e0 : st.map cv = (((st.take n).reverse).map cv).reverse ++ .ref b :: rest.map cv := by rw [st_split st n, hdrop]; rfl
      rw [e0]
      exact W_callV hx hb hown hts hG hR hm hV L h2 rfl (va_recv hG.1 (va_P1 hat) hcl (q0 := 0) rfl) (by rw [List.length_reverse, List.length_take]; have := Nat.le_of_ble_eq_true hc9.2; omega) hrel (okS.cons (okS.head hdr) (hst.take n)) hS hd1 (cat8 hc9.1.2) hml hd hnd fun r M1 H1 locs1 hq hok1 hg1 hrel1 hS1 => by
        obtain ⟨z, rfl, hP⟩ := hq; exact k al (vL z :: rest) M1 _ _ (h3 z M1 hP) H1 locs1 ls hl (hal.grow hg1) (okS.cons trivial (okS.grow hg1 hrs)) (hgr.call hg1 hnd) hrel1 hS1
  · exact h.elim
def o_cSl (K : List AV → Mm → (Option AV → Mm → Prop) → Prop) (n mc ms mc2 ms2 : Nat) (φ : Fm) : Fm := fun al st M cs ss => cond (sl8 (st.drop n) && Nat.ble n st.length) (need mc2 ms2 cs ss mc ms (∃ P : Int64 → Mm → Prop, K (st.take n).reverse M (Ql P) ∧ ∀ (z : Int64) (M' : Mm), P z M' → φ al (vL z :: (st.drop n)) M' (cs + mc2) (ss + ms2))) False
theorem s_cSl {Z : ZT} {cc : ByteArray} {own : String} {ret : Option FieldType} {d mc9 ms9 : Nat} {G9 : GT} {Q : Option AV → Mm → Prop} (C : Zok Z cc own ret d G9 mc9 ms9 Q) {pc : Nat} {n index mc2 ms2 : Nat} {q : MD} {φ : Fm} (hd : decode cc pc = .ok (.invokestatic index, 3)) (hm : MOk q n) (hV : MS q) (L : LkM own index q.1) (hd1 : 1 ≤ d) (k : Sd Z φ (pc + 3)) : Sd Z (o_cSl (fun avs M Q2 => CT G9 none (d - 1) mc2 ms2 q avs M Q2) n mc9 ms9 mc2 ms2 φ) pc := by
  obtain ⟨p, e, R, s, m, args, below, meth, c, G, x9, M0, Q', QX, mc, ms⟩ := Z
  obtain ⟨hx, hb, hown, hts, hlk, hr, hG, hR, hQ, rfl, rfl, rfl, hB⟩ := C
  intro al st M cs ss h H locs ls hl hal hst hgr hrel hS
  unfold o_cSl at h
  cases hc9 : (sl8 (st.drop n) && Nat.ble n st.length) with
  | false => rw [hc9] at h; exact h.elim
  | true =>
    rw [hc9] at h
    simp only [Bool.and_eq_true] at hc9
    obtain ⟨hnd, P, h2, h3⟩ := h.to hgr.2.1 hgr.2.2
    have hrs := hst.drop n
    have hml : ls.size = c.maxLocals := hl.1
    rw [st_split st n]
    exact W_callS hx hb hown hts hG hR hm hV L h2 rfl (by rw [List.length_reverse, List.length_take]; have := Nat.le_of_ble_eq_true hc9.2; omega) hrel (hst.take n) hS hd1 (cat8 hc9.1) hml hd hnd fun r M1 H1 locs1 hq hok1 hg1 hrel1 hS1 => by
      obtain ⟨z, rfl, hP⟩ := hq; exact k al (vL z :: (st.drop n)) M1 _ _ (h3 z M1 hP) H1 locs1 ls hl (hal.grow hg1) (okS.cons trivial (okS.grow hg1 hrs)) (hgr.call hg1 hnd) hrel1 hS1
def o_cVv (K : List AV → Mm → (Option AV → Mm → Prop) → Prop) (n kk mc ms mc2 ms2 : Nat) (φ : Fm) : Fm := fun al st M cs ss => match st.drop n with
  | Sum.inr (Sum.inr (some (b, k9, n9))) :: rest => cond (Nat.beq k9 kk && sl8 rest && Nat.ble n st.length) (need mc2 ms2 cs ss mc ms (∃ P : Mm → Prop, K (vR b k9 n9 :: (st.take n).reverse) M (Qv P) ∧ ∀ (M' : Mm), P M' → φ al rest M' (cs + mc2) (ss + ms2))) False
  | _ => False
theorem s_cVv {Z : ZT} {cc : ByteArray} {own : String} {ret : Option FieldType} {d mc9 ms9 : Nat} {G9 : GT} {Q : Option AV → Mm → Prop} (C : Zok Z cc own ret d G9 mc9 ms9 Q) {pc : Nat} {n kk index mc2 ms2 N : Nat} {C0 : String} {T0 : u_T} {q : MD} {φ : Fm} (hd : decode cc pc = .ok (.invokevirtual index, 3)) (hm : MOk q n) (hV : MV q) (L : LkM own index q.1) (hk0 : objK kk = true) (hcl : vwCl[cix kk]? = some (q.1.cls, T0, N)) (hd1 : 1 ≤ d) (k : Sd Z φ (pc + 3)) : Sd Z (o_cVv (fun avs M Q2 => CT G9 none (d - 1) mc2 ms2 q avs M Q2) n kk mc9 ms9 mc2 ms2 φ) pc := by
  obtain ⟨p, e, R, s, m, args, below, meth, c, G, x9, M0, Q', QX, mc, ms⟩ := Z
  obtain ⟨hx, hb, hown, hts, hlk, hr, hG, hR, hQ, rfl, rfl, rfl, hB⟩ := C
  intro al st M cs ss h H locs ls hl hal hst hgr hrel hS
  unfold o_cVv at h
  split at h
  · next b k9 n9 rest hdrop =>
    cases hc9 : (Nat.beq k9 kk && sl8 rest && Nat.ble n st.length) with
    | false => rw [hc9] at h; exact h.elim
    | true =>
      rw [hc9] at h
      simp only [Bool.and_eq_true] at hc9
      have hkk := Nat.eq_of_beq_eq_true hc9.1.1
      subst hkk
      obtain ⟨hnd, P, h2, h3⟩ := h.to hgr.2.1 hgr.2.2
      have hdr := hst.drop n
      rw [hdrop] at hdr
      have hq := objK_lt hk0
      have hkd := (okS.head hdr).ref hq.2.2.2.2.2.2.1 hq.2.2.2.2.2.2.2.1 hq.2.2.2.2.2.2.2.2
      have hat := hrel.at (a := b) (by rw [hkd.1]; exact hkd.2)
      rw [ce_obj hk0 hkd.1] at hat
      have hrs := okS.tail hdr
      have hml : ls.size = c.maxLocals := hl.1
      have e0 : st.map cv = (((st.take n).reverse).map cv).reverse ++ .ref b :: rest.map cv := by rw [st_split st n, hdrop]; rfl
      rw [e0]
      exact W_callV hx hb hown hts hG hR hm hV L h2 rfl (va_recv hG.1 (va_P1 hat) hcl (q0 := 0) rfl) (by rw [List.length_reverse, List.length_take]; have := Nat.le_of_ble_eq_true hc9.2; omega) hrel (okS.cons (okS.head hdr) (hst.take n)) hS hd1 (cat8 hc9.1.2) hml hd hnd fun r M1 H1 locs1 hq hok1 hg1 hrel1 hS1 => by
        obtain ⟨rfl, hP⟩ := hq; exact k al rest M1 _ _ (h3 M1 hP) H1 locs1 ls hl (hal.grow hg1) (okS.grow hg1 hrs) (hgr.call hg1 hnd) hrel1 hS1
  · exact h.elim
def o_cSv (K : List AV → Mm → (Option AV → Mm → Prop) → Prop) (n mc ms mc2 ms2 : Nat) (φ : Fm) : Fm := fun al st M cs ss => cond (sl8 (st.drop n) && Nat.ble n st.length) (need mc2 ms2 cs ss mc ms (∃ P : Mm → Prop, K (st.take n).reverse M (Qv P) ∧ ∀ (M' : Mm), P M' → φ al (st.drop n) M' (cs + mc2) (ss + ms2))) False
theorem s_cSv {Z : ZT} {cc : ByteArray} {own : String} {ret : Option FieldType} {d mc9 ms9 : Nat} {G9 : GT} {Q : Option AV → Mm → Prop} (C : Zok Z cc own ret d G9 mc9 ms9 Q) {pc : Nat} {n index mc2 ms2 : Nat} {q : MD} {φ : Fm} (hd : decode cc pc = .ok (.invokestatic index, 3)) (hm : MOk q n) (hV : MS q) (L : LkM own index q.1) (hd1 : 1 ≤ d) (k : Sd Z φ (pc + 3)) : Sd Z (o_cSv (fun avs M Q2 => CT G9 none (d - 1) mc2 ms2 q avs M Q2) n mc9 ms9 mc2 ms2 φ) pc := by
  obtain ⟨p, e, R, s, m, args, below, meth, c, G, x9, M0, Q', QX, mc, ms⟩ := Z
  obtain ⟨hx, hb, hown, hts, hlk, hr, hG, hR, hQ, rfl, rfl, rfl, hB⟩ := C
  intro al st M cs ss h H locs ls hl hal hst hgr hrel hS
  unfold o_cSv at h
  cases hc9 : (sl8 (st.drop n) && Nat.ble n st.length) with
  | false => rw [hc9] at h; exact h.elim
  | true =>
    rw [hc9] at h
    simp only [Bool.and_eq_true] at hc9
    obtain ⟨hnd, P, h2, h3⟩ := h.to hgr.2.1 hgr.2.2
    have hrs := hst.drop n
    have hml : ls.size = c.maxLocals := hl.1
    rw [st_split st n]
    exact W_callS hx hb hown hts hG hR hm hV L h2 rfl (by rw [List.length_reverse, List.length_take]; have := Nat.le_of_ble_eq_true hc9.2; omega) hrel (hst.take n) hS hd1 (cat8 hc9.1) hml hd hnd fun r M1 H1 locs1 hq hok1 hg1 hrel1 hS1 => by
      obtain ⟨rfl, hP⟩ := hq; exact k al (st.drop n) M1 _ _ (h3 M1 hP) H1 locs1 ls hl (hal.grow hg1) (okS.grow hg1 hrs) (hgr.call hg1 hnd) hrel1 hS1
def o_cVr (K : List AV → Mm → (Option AV → Mm → Prop) → Prop) (n kk mc ms mc2 ms2 : Nat) (k2 n2 : Nat) (φ : Fm) : Fm := fun al st M cs ss => match st.drop n with
  | Sum.inr (Sum.inr (some (b, k9, n9))) :: rest => cond (Nat.beq k9 kk && sl8 rest && Nat.ble n st.length) (need mc2 ms2 cs ss mc ms (∃ P : Nat → Mm → Prop, K (vR b k9 n9 :: (st.take n).reverse) M (Qr k2 n2 P) ∧ ∀ (z : Nat) (M' : Mm), P z M' → φ al (vR z k2 n2 :: rest) M' (cs + mc2) (ss + ms2))) False
  | _ => False
theorem s_cVr {Z : ZT} {cc : ByteArray} {own : String} {ret : Option FieldType} {d mc9 ms9 : Nat} {G9 : GT} {Q : Option AV → Mm → Prop} (C : Zok Z cc own ret d G9 mc9 ms9 Q) {pc : Nat} {n kk index mc2 ms2 N : Nat} {k2 n2 : Nat} {C0 : String} {T0 : u_T} {q : MD} {φ : Fm} (hd : decode cc pc = .ok (.invokevirtual index, 3)) (hm : MOk q n) (hV : MV q) (L : LkM own index q.1) (hk0 : objK kk = true) (hcl : vwCl[cix kk]? = some (q.1.cls, T0, N)) (hd1 : 1 ≤ d) (k : Sd Z φ (pc + 3)) : Sd Z (o_cVr (fun avs M Q2 => CT G9 none (d - 1) mc2 ms2 q avs M Q2) n kk mc9 ms9 mc2 ms2 k2 n2 φ) pc := by
  obtain ⟨p, e, R, s, m, args, below, meth, c, G, x9, M0, Q', QX, mc, ms⟩ := Z
  obtain ⟨hx, hb, hown, hts, hlk, hr, hG, hR, hQ, rfl, rfl, rfl, hB⟩ := C
  intro al st M cs ss h H locs ls hl hal hst hgr hrel hS
  unfold o_cVr at h
  split at h
  · next b k9 n9 rest hdrop =>
    cases hc9 : (Nat.beq k9 kk && sl8 rest && Nat.ble n st.length) with
    | false => rw [hc9] at h; exact h.elim
    | true =>
      rw [hc9] at h
      simp only [Bool.and_eq_true] at hc9
      have hkk := Nat.eq_of_beq_eq_true hc9.1.1
      subst hkk
      obtain ⟨hnd, P, h2, h3⟩ := h.to hgr.2.1 hgr.2.2
      have hdr := hst.drop n
      rw [hdrop] at hdr
      have hq := objK_lt hk0
      have hkd := (okS.head hdr).ref hq.2.2.2.2.2.2.1 hq.2.2.2.2.2.2.2.1 hq.2.2.2.2.2.2.2.2
      have hat := hrel.at (a := b) (by rw [hkd.1]; exact hkd.2)
      rw [ce_obj hk0 hkd.1] at hat
      have hrs := okS.tail hdr
      have hml : ls.size = c.maxLocals := hl.1
      have e0 : st.map cv = (((st.take n).reverse).map cv).reverse ++ .ref b :: rest.map cv := by rw [st_split st n, hdrop]; rfl
      rw [e0]
      exact W_callV hx hb hown hts hG hR hm hV L h2 rfl (va_recv hG.1 (va_P1 hat) hcl (q0 := 0) rfl) (by rw [List.length_reverse, List.length_take]; have := Nat.le_of_ble_eq_true hc9.2; omega) hrel (okS.cons (okS.head hdr) (hst.take n)) hS hd1 (cat8 hc9.1.2) hml hd hnd fun r M1 H1 locs1 hq hok1 hg1 hrel1 hS1 => by
        obtain ⟨z, rfl, hP⟩ := hq; exact k al (vR z k2 n2 :: rest) M1 _ _ (h3 z M1 hP) H1 locs1 ls hl (hal.grow hg1) (okS.cons (hok1 _ rfl) (okS.grow hg1 hrs)) (hgr.call hg1 hnd) hrel1 hS1
  · exact h.elim
def o_cSr (K : List AV → Mm → (Option AV → Mm → Prop) → Prop) (n mc ms mc2 ms2 : Nat) (k2 n2 : Nat) (φ : Fm) : Fm := fun al st M cs ss => cond (sl8 (st.drop n) && Nat.ble n st.length) (need mc2 ms2 cs ss mc ms (∃ P : Nat → Mm → Prop, K (st.take n).reverse M (Qr k2 n2 P) ∧ ∀ (z : Nat) (M' : Mm), P z M' → φ al (vR z k2 n2 :: (st.drop n)) M' (cs + mc2) (ss + ms2))) False
theorem s_cSr {Z : ZT} {cc : ByteArray} {own : String} {ret : Option FieldType} {d mc9 ms9 : Nat} {G9 : GT} {Q : Option AV → Mm → Prop} (C : Zok Z cc own ret d G9 mc9 ms9 Q) {pc : Nat} {n index mc2 ms2 : Nat} {k2 n2 : Nat} {q : MD} {φ : Fm} (hd : decode cc pc = .ok (.invokestatic index, 3)) (hm : MOk q n) (hV : MS q) (L : LkM own index q.1) (hd1 : 1 ≤ d) (k : Sd Z φ (pc + 3)) : Sd Z (o_cSr (fun avs M Q2 => CT G9 none (d - 1) mc2 ms2 q avs M Q2) n mc9 ms9 mc2 ms2 k2 n2 φ) pc := by
  obtain ⟨p, e, R, s, m, args, below, meth, c, G, x9, M0, Q', QX, mc, ms⟩ := Z
  obtain ⟨hx, hb, hown, hts, hlk, hr, hG, hR, hQ, rfl, rfl, rfl, hB⟩ := C
  intro al st M cs ss h H locs ls hl hal hst hgr hrel hS
  unfold o_cSr at h
  cases hc9 : (sl8 (st.drop n) && Nat.ble n st.length) with
  | false => rw [hc9] at h; exact h.elim
  | true =>
    rw [hc9] at h
    simp only [Bool.and_eq_true] at hc9
    obtain ⟨hnd, P, h2, h3⟩ := h.to hgr.2.1 hgr.2.2
    have hrs := hst.drop n
    have hml : ls.size = c.maxLocals := hl.1
    rw [st_split st n]
    exact W_callS hx hb hown hts hG hR hm hV L h2 rfl (by rw [List.length_reverse, List.length_take]; have := Nat.le_of_ble_eq_true hc9.2; omega) hrel (hst.take n) hS hd1 (cat8 hc9.1) hml hd hnd fun r M1 H1 locs1 hq hok1 hg1 hrel1 hS1 => by
      obtain ⟨z, rfl, hP⟩ := hq; exact k al (vR z k2 n2 :: (st.drop n)) M1 _ _ (h3 z M1 hP) H1 locs1 ls hl (hal.grow hg1) (okS.cons (hok1 _ rfl) (okS.grow hg1 hrs)) (hgr.call hg1 hnd) hrel1 hS1
